/-! A world as a partial map from addresses to entries; behind it stands a list of cells as the kit's rows have it. Contracts over such maps: 'xR' (a method that writes nothing), 'xQ' (one that writes). -/
abbrev xM : Type := Nat → Option va_E
def xU (M : xM) (a : Nat) (e : va_E) : xM := fun x => if x = a then some e else M x
theorem xU_s {M : xM} {a : Nat} {e : va_E} : xU M a e a = some e := by simp [xU]
theorem xU_n {M : xM} {a b : Nat} {e : va_E} (h : b ≠ a) : xU M a e b = M b := by simp [xU, h]
theorem xU_k {M : xM} {a b : Nat} {e e' : va_E} (h : b ≠ a) (hb : M b = some e') : xU M a e b = some e' := by rw [xU_n h]; exact hb
def xE (M : xM) (ws : va_W) : Prop := ∀ (a : Nat) (e : va_E), M a = some e ↔ ∃ k : Nat, ws[k]? = some (a, e)
def xW (D : va_G) (cl : List vw_C) (A : Nat → Prop) (M : xM) (H : Heap) : Prop := ∃ ws : va_W, va_P D cl ws H ∧ va_D A ws ∧ xE M ws
theorem xE.set {M : xM} {ws : va_W} {A : Nat → Prop} {q0 a : Nat} {e0 e : va_E} (h : xE M ws) (hD : va_D A ws) (h0 : ws[q0]? = some (a, e0)) : xE (xU M a e) (ws.set q0 (a, e)) := by
  have hl := (List.getElem?_eq_some_iff.mp h0).1
  intro b e'
  by_cases hb : b = a
  · subst hb
    rw [xU_s]
    constructor
    · intro q
      cases q
      exact ⟨q0, List.getElem?_set_self hl⟩
    · rintro ⟨k, hk⟩
      by_cases hkq : k = q0
      · subst hkq
        rw [List.getElem?_set_self hl] at hk
        cases hk
        rfl
      · rw [List.getElem?_set_ne (Ne.symm hkq)] at hk
        exact absurd (hD.1 k q0 _ _ hk h0 rfl) hkq
  · rw [xU_n hb, h b e']
    constructor
    · rintro ⟨k, hk⟩
      refine ⟨k, ?_⟩
      have hkq : k ≠ q0 := fun q => by
        subst q
        rw [h0] at hk
        cases hk
        exact hb rfl
      rw [List.getElem?_set_ne (Ne.symm hkq)]
      exact hk
    · rintro ⟨k, hk⟩
      by_cases hkq : k = q0
      · subst hkq
        rw [List.getElem?_set_self hl] at hk
        cases hk
        exact absurd rfl hb
      · rw [List.getElem?_set_ne (Ne.symm hkq)] at hk
        exact ⟨k, hk⟩
theorem xE.push {M : xM} {ws : va_W} {A : Nat → Prop} {a : Nat} {e : va_E} (h : xE M ws) (hD : va_D A (ws ++ [(a, e)])) : xE (xU M a e) (ws ++ [(a, e)]) ∧ M a = none := by
  have hlast : (ws ++ [(a, e)])[ws.length]? = some (a, e) := by simp
  have hnone : ∀ (k : Nat) (e' : va_E), ws[k]? = some (a, e') → False := by
    intro k e' hk
    have hkl := (List.getElem?_eq_some_iff.mp hk).1
    have h1 : (ws ++ [(a, e)])[k]? = some (a, e') := by rw [List.getElem?_append_left hkl]; exact hk
    have := hD.1 k ws.length _ _ h1 hlast rfl
    omega
  refine ⟨fun b e' => ?_, ?_⟩
  · by_cases hb : b = a
    · subst hb
      rw [xU_s]
      constructor
      · intro q
        cases q
        exact ⟨_, hlast⟩
      · rintro ⟨k, hk⟩
        have hkk := hD.1 k ws.length _ _ hk hlast rfl
        subst hkk
        rw [hlast] at hk
        cases hk
        rfl
    · rw [xU_n hb, h b e']
      constructor
      · rintro ⟨k, hk⟩
        exact ⟨k, by rw [List.getElem?_append_left (List.getElem?_eq_some_iff.mp hk).1]; exact hk⟩
      · rintro ⟨k, hk⟩
        by_cases hkl : k < ws.length
        · rw [List.getElem?_append_left hkl] at hk
          exact ⟨k, hk⟩
        · rw [List.getElem?_append_right (by omega)] at hk
          have hz : k - ws.length < 1 := (List.getElem?_eq_some_iff.mp hk).1
          rw [show k - ws.length = 0 by omega] at hk
          cases hk
          exact absurd rfl hb
  · cases hm : M a with
    | none => rfl
    | some e' =>
      obtain ⟨k, hk⟩ := (h a e').mp hm
      exact (hnone k e' hk).elim
theorem xW.inA {D : va_G} {cl : List vw_C} {A : Nat → Prop} {M : xM} {H : Heap} (h : xW D cl A M H) {a : Nat} {e : va_E} (ha : M a = some e) : A a := by
  obtain ⟨ws, -, hD, hE⟩ := h
  obtain ⟨k, hk⟩ := (hE a e).mp ha
  exact hD.2 k _ hk
theorem xW.wk {D : va_G} {cl : List vw_C} {A A' : Nat → Prop} {M : xM} {H : Heap} (h : xW D cl A M H) (hA : ∀ a e, M a = some e → A' a) : xW D cl A' M H := by
  obtain ⟨ws, hP, hD, hE⟩ := h
  exact ⟨ws, hP, ⟨hD.1, fun k q hk => hA q.1 q.2 ((hE q.1 q.2).mpr ⟨k, hk⟩)⟩, hE⟩
abbrev xT : Nat → Prop := fun _ => True
theorem xW.all {D : va_G} {cl : List vw_C} {A : Nat → Prop} {M : xM} {H : Heap} (h : xW D cl A M H) : xW D cl xT M H := h.wk (fun _ _ _ => trivial)
abbrev tyT (T : Nat → ClassId) : List (ClassId × FieldType) := [(T 0, .int), (T 1, .boolean), (T 2, .object "ShareGrid$ServerRecord"), (T 3, .object "ShareGrid$StoredFile")]
/-- the tables: fields and arrays, the words on nest mates, the arrays of objects -/
def xK (D : va_G) (T : Nat → ClassId) (U : State) : Prop := va_K D classes (tyT T) U ∧ (∀ w ∈ xN, va_Nw w U) ∧ (∀ C ∈ xO, va_AO C U)
def xIsN : Cond → Bool
  | .fieldLinkNest .. => true
  | .methodLinkNest .. => true
  | _ => false
theorem xN_ok : ∀ w ∈ xN, xIsN w = true := by decide +kernel
theorem xIsN_tab {w : Cond} (h : xIsN w = true) : w.onTables = true := by cases w <;> first | rfl | (simp [xIsN] at h)
theorem xIsN_warm {w : Cond} (h : xIsN w = true) {s U : State} (hW : s.WarmedH U.vm) (hz : va_Nw w s) : va_Nw w U := by
  cases w <;> first | exact va_Nw.warmF hW hz | exact va_Nw.warmM hW hz | (simp [xIsN] at h)
theorem xK.warm {D : va_G} {T : Nat → ClassId} {s U : State} (hW : s.WarmedH U.vm) (h : xK D T s) : xK D T U := ⟨va_K.moved hW.alike h.1, fun w hw => xIsN_warm (xN_ok w hw) hW (h.2.1 w hw), fun C hC => va_AO.moved hW.alike (h.2.2 C hC)⟩
theorem xK.calling {D : va_G} {T : Nat → ClassId} {U : State} {g : JFrame} {mk : MethodId} {a : Array Value} (h : xK D T U) : xK D T (U.calling g mk a) := ⟨va_K.moved (u := U) (U := U.calling g mk a) (Vm.Alike.refl U.vm) h.1, fun w hw => va_Nw.same (u := U) (U := U.calling g mk a) (xIsN_tab (xN_ok w hw)) rfl (h.2.1 w hw), fun C hC => va_AO.moved (u := U) (U := U.calling g mk a) (Vm.Alike.refl U.vm) (h.2.2 C hC)⟩
def xPc (D : va_G) (T : Nat → ClassId) (A : Nat → Prop) (M : xM) (av : List Value) : Array Value → State → Prop := fun v U => v = av.toArray ∧ xW D classes A M U.heap ∧ xK D T U
def xPn (D : va_G) (T : Nat → ClassId) (A : Nat → Prop) (M : xM) (sz : Nat) (av : List Value) : Array Value → State → Prop := fun v U => v = av.toArray ∧ xW D classes A M U.heap ∧ xK D T U ∧ U.heap.size = sz
def xR (post : Option Value → Prop) : Array Value → State → Outcome → State → Prop := fun _ st oc t => ∃ r : Option Value, oc = .returned r ∧ post r ∧ t.heap = st.heap
def xQ (D : va_G) (A : Nat → Prop) (post : Option Value → xM → Prop) : Array Value → State → Outcome → State → Prop := fun _ st oc t => ∃ (r : Option Value) (M1 : xM), oc = .returned r ∧ post r M1 ∧ xW D classes A M1 t.heap ∧ va_F A st t
theorem xPc_blind {D : va_G} {T : Nat → ClassId} {A : Nat → Prop} {M : xM} {av : List Value} : FrameBlind (xPc D T A M av) := fun _ _ _ _ q => ⟨q.1, q.2.1, q.2.2.calling⟩
theorem xPn_blind {D : va_G} {T : Nat → ClassId} {A : Nat → Prop} {M : xM} {sz : Nat} {av : List Value} : FrameBlind (xPn D T A M sz av) := fun _ _ _ _ q => ⟨q.1, q.2.1, q.2.2.1.calling, q.2.2.2⟩
section XPRE
variable {s : State} {H : Heap} {D : va_G} {T : Nat → ClassId} {A : Nat → Prop} {M : xM} {As : List Value}
theorem xPre_S (hK : xK D T s) (hP : xW D classes A M H) : PreS s H (xPc D T A M As) As := ⟨xPc_blind, fun U hU hW => ⟨rfl, by rw [hU]; exact hP, hK.warm hW⟩⟩
theorem xRecv {b ci : Nat} {q : vw_C} {fs : List Value} (hK : xK D T s) (hP : xW D classes A M H) (hc : classes[ci]? = some q) (he : M b = some (.inr (ci, fs))) : ∃ cell : Cell, H[b]? = some cell ∧ cell.vm.isStatics = false ∧ s.vm.findClass q.1 = some cell.cls := by
  obtain ⟨ws, hP, -, hE⟩ := hP
  obtain ⟨k, hk⟩ := (hE _ _).mp he
  exact va_recv hK.1 hP hc hk
theorem xPre_V {b ci : Nat} {q : vw_C} {C : String} {fs : List Value} (hK : xK D T s) (hP : xW D classes A M H) (he : M b = some (.inr (ci, fs))) (hc : classes[ci]? = some q) (hC : q.1 = C) : PreV s H C b (xPc D T A M (.ref b :: As)) As := ⟨xPc_blind, by rw [← hC]; exact xRecv hK hP hc he, fun U hU hW => ⟨rfl, by rw [hU]; exact hP, hK.warm hW⟩⟩
theorem xPre_N (hK : xK D T s) (hP : xW D classes A M H) : PreS s H (xPn D T A M H.size As) As := ⟨xPn_blind, fun U hU hW => ⟨rfl, by rw [hU]; exact hP, hK.warm hW, by rw [hU]⟩⟩
end XPRE
section XC
variable {p : Program} {l : Launch} {e : Env} {R : Room} {s : State} {m : MethodId} {args : Array Value} {below : List Frame} {meth : Method} {c : Code} {H : Heap} {locs : List Loc} {cells slots : Nat} {Q : State → Prop}
variable {cc : ByteArray} {pc : Nat} {ls : Array Slot} {rest st0 : List Value} {D : va_G} {cl : List vw_C} {A : Nat → Prop} {a : Nat} {tys : List (ClassId × FieldType)} {M : xM} {H0 : Heap}
theorem x_callR {post : Option Value → Prop} {av : Array Value} (hr : va_Run p l e R s m args below meth c H locs cells slots 0 0 (F0 m pc ls st0) rest (xR post av) (fun _ => False))
    (kk : ∀ r : Option Value, post r → W p l e R s m args below meth c H locs cells slots Q (F0 m (pc + 3) ls (r.toList ++ rest))) : W p l e R s m args below meth c H locs cells slots Q (F0 m pc ls st0) := by
  intro T hT X
  obtain ⟨v, st₀, t, T', L, h0, X', hL, e1, e2, ⟨r, hv, hp, hh⟩, st⟩ := hr T hT X
  cases hv
  obtain ⟨t2, a1, b1⟩ := kk v hp T' (by rw [e1, hh, h0]) (Stand.forget X' (fun q h => (hL q h).elim))
  exact ⟨t2, st t2 a1, b1⟩
theorem x_callQ {post : Option Value → xM → Prop} {av : Array Value} {mc ms : Nat} (hr : va_Run p l e R s m args below meth c H locs cells slots mc ms (F0 m pc ls st0) rest (xQ D A post av) A) (hS : va_S A H0 H locs)
    (kk : ∀ (r : Option Value) (M1 : xM) (H1 : Heap) (locs1 : List Loc), post r M1 → xW D classes A M1 H1 → va_S A H0 H1 locs1 → W p l e R s m args below meth c H1 locs1 (cells + mc) (slots + ms) Q (F0 m (pc + 3) ls (r.toList ++ rest))) : W p l e R s m args below meth c H locs cells slots Q (F0 m pc ls st0) := by
  intro T hT X
  obtain ⟨v, st₀, t, T', L, h0, X', hL, e1, e2, ⟨r, M1, hv, hp, hP1, hz, hk⟩, st⟩ := hr T hT X
  cases hv
  rw [h0] at hz hk
  have hS1 : va_S A H0 T'.heap (locs ++ L) := by
    refine ⟨Nat.le_trans hS.1 (by rw [e1]; exact hz), fun q h1 h2 => ?_, fun q hq => ?_⟩
    · rw [e1, hk q (Nat.lt_of_lt_of_le h1 hS.1) h2]
      exact hS.2.1 q h1 h2
    · rcases List.mem_append.mp hq with h | h
      · exact hS.2.2 q h
      · exact hL q h
  obtain ⟨t2, a1, b1⟩ := kk v M1 T'.heap (locs ++ L) hp (by rw [e1]; exact hP1) hS1 T' rfl X'
  exact ⟨t2, st t2 a1, b1⟩
theorem x_get (hexec : p.tables.exec = Jvm.exec) (hb : c.code = cc) {own ref C : String} {T : u_T} {N ci index : Nat} {Ts : List Cond} (hts : ∀ w ∈ Ts, w.before args s = true) (hin : ∀ w ∈ u_ws C T N, w ∈ Ts) (hown : s.vm.findClass own = some m.cls) (hK : va_K D cl tys s) (hP : xW D cl A M H) {fs : List Value} (he : M a = some (.inr (ci, fs))) (hc : cl[ci]? = some (C, T, N)) (k : Nat) (hk : k < N) (hlink : (Cond.fieldLink own index ref (T k).2.1 (T k).2.2.1).before args s = true) (hsame : ∀ x, s.fieldFound? (T k).1 (T k).2.1 (T k).2.2.1 = some x → s.fieldFound? ref (T k).2.1 (T k).2.2.1 = some x) {v : Value} (hv : fs[k]? = some v) (hdg : decode cc pc = .ok (.getfield index, 3))
    (kk : W p l e R s m args below meth c H locs cells slots Q (F0 m (pc + 3) ls (v :: rest))) : W p l e R s m args below meth c H locs cells slots Q (F0 m pc ls (.ref a :: rest)) := by
  obtain ⟨ws, hP, -, hE⟩ := hP
  obtain ⟨q0, h0⟩ := (hE _ _).mp he
  exact va_get hexec hb hts hin hown hK hP q0 h0 hc k hk hlink hsame hv hdg kk
theorem x_getN (hexec : p.tables.exec = Jvm.exec) (hb : c.code = cc) {own ref C host : String} {T : u_T} {N ci index : Nat} {Ts : List Cond} (hts : ∀ w ∈ Ts, w.before args s = true) (hin : ∀ w ∈ u_ws C T N, w ∈ Ts) (hown : s.vm.findClass own = some m.cls) (hK : va_K D cl tys s) (hP : xW D cl A M H) {fs : List Value} (he : M a = some (.inr (ci, fs))) (hc : cl[ci]? = some (C, T, N)) (k : Nat) (hk : k < N) (hlink : (Cond.fieldLinkNest own index ref (T k).2.1 (T k).2.2.1 host).before args s = true) (hsame : ∀ x, s.fieldFound? (T k).1 (T k).2.1 (T k).2.2.1 = some x → s.fieldFound? ref (T k).2.1 (T k).2.2.1 = some x) {v : Value} (hv : fs[k]? = some v) (hdg : decode cc pc = .ok (.getfield index, 3))
    (kk : W p l e R s m args below meth c H locs cells slots Q (F0 m (pc + 3) ls (v :: rest))) : W p l e R s m args below meth c H locs cells slots Q (F0 m pc ls (.ref a :: rest)) := by
  obtain ⟨ws, hP, -, hE⟩ := hP
  obtain ⟨q0, h0⟩ := (hE _ _).mp he
  exact va_getN hexec hb hts hin hown hK hP q0 h0 hc k hk hlink hsame hv hdg kk
theorem x_put (hexec : p.tables.exec = Jvm.exec) (hb : c.code = cc) {own ref C : String} {T : u_T} {N ci index : Nat} {Ts : List Cond} (hts : ∀ w ∈ Ts, w.before args s = true) (hin : ∀ w ∈ u_ws C T N, w ∈ Ts) (ty0 : Nat → FieldType) (hty : ∀ k, k < N → parseFieldDescriptor (T k).2.2.1 = some (ty0 k)) (hnm : ∀ a, a < N → ∀ b, b < N → a ≠ b → (T a).2.1 ≠ (T b).2.1) (hown : s.vm.findClass own = some m.cls) (hK : va_K D cl tys s) (hP : xW D cl A M H) (hS0 : va_S A H0 H locs) {fs : List Value} (he : M a = some (.inr (ci, fs))) (hc : cl[ci]? = some (C, T, N)) (k : Nat) (hk : k < N) (hlink : (Cond.fieldLink own index ref (T k).2.1 (T k).2.2.1).before args s = true) (hsame : ∀ x, s.fieldFound? (T k).1 (T k).2.1 (T k).2.2.1 = some x → s.fieldFound? ref (T k).2.1 (T k).2.2.1 = some x) (hfin : (T k).2.2.2 = false) {ty : FieldType} {v : Value} (hd : parseFieldDescriptor (T k).2.2.1 = some ty) (hn : narrow ty v = v) (hfit : fits ty v = true) (hl : k < fs.length)
    (hdg : decode cc pc = .ok (.putfield index, 3)) (kk : ∀ (H1 : Heap) (locs1 : List Loc), xW D cl A (xU M a (.inr (ci, fs.set k v))) H1 → va_S A H0 H1 locs1 → W p l e R s m args below meth c H1 locs1 cells slots Q (F0 m (pc + 3) ls rest)) : W p l e R s m args below meth c H locs cells slots Q (F0 m pc ls (v :: .ref a :: rest)) := by
  obtain ⟨ws, hP, hD, hE⟩ := hP
  obtain ⟨q0, h0⟩ := (hE _ _).mp he
  exact va_put hexec hb hts hin ty0 hty hnm hown hK hP hD hS0 q0 h0 hc k hk hlink hsame hfin hd hn hfit hl hdg (fun H1 locs1 g1 g2 g3 => kk H1 locs1 ⟨_, g1, g2, hE.set hD h0⟩ g3)
theorem x_putN (hexec : p.tables.exec = Jvm.exec) (hb : c.code = cc) {own ref C host : String} {T : u_T} {N ci index : Nat} {Ts : List Cond} (hts : ∀ w ∈ Ts, w.before args s = true) (hin : ∀ w ∈ u_ws C T N, w ∈ Ts) (ty0 : Nat → FieldType) (hty : ∀ k, k < N → parseFieldDescriptor (T k).2.2.1 = some (ty0 k)) (hnm : ∀ a, a < N → ∀ b, b < N → a ≠ b → (T a).2.1 ≠ (T b).2.1) (hown : s.vm.findClass own = some m.cls) (hK : va_K D cl tys s) (hP : xW D cl A M H) (hS0 : va_S A H0 H locs) {fs : List Value} (he : M a = some (.inr (ci, fs))) (hc : cl[ci]? = some (C, T, N)) (k : Nat) (hk : k < N) (hlink : (Cond.fieldLinkNest own index ref (T k).2.1 (T k).2.2.1 host).before args s = true) (hsame : ∀ x, s.fieldFound? (T k).1 (T k).2.1 (T k).2.2.1 = some x → s.fieldFound? ref (T k).2.1 (T k).2.2.1 = some x) (hfin : (T k).2.2.2 = false) {ty : FieldType} {v : Value} (hd : parseFieldDescriptor (T k).2.2.1 = some ty) (hn : narrow ty v = v) (hfit : fits ty v = true) (hl : k < fs.length)
    (hdg : decode cc pc = .ok (.putfield index, 3)) (kk : ∀ (H1 : Heap) (locs1 : List Loc), xW D cl A (xU M a (.inr (ci, fs.set k v))) H1 → va_S A H0 H1 locs1 → W p l e R s m args below meth c H1 locs1 cells slots Q (F0 m (pc + 3) ls rest)) : W p l e R s m args below meth c H locs cells slots Q (F0 m pc ls (v :: .ref a :: rest)) := by
  obtain ⟨ws, hP, hD, hE⟩ := hP
  obtain ⟨q0, h0⟩ := (hE _ _).mp he
  exact va_putN hexec hb hts hin ty0 hty hnm hown hK hP hD hS0 q0 h0 hc k hk hlink hsame hfin hd hn hfit hl hdg (fun H1 locs1 g1 g2 g3 => kk H1 locs1 ⟨_, g1, g2, hE.set hD h0⟩ g3)
theorem x_putF (hexec : p.tables.exec = Jvm.exec) (hb : c.code = cc) {own ref C : String} {T : u_T} {N ci index : Nat} {Ts : List Cond} (hts : ∀ w ∈ Ts, w.before args s = true) (hin : ∀ w ∈ u_ws C T N, w ∈ Ts) (ty0 : Nat → FieldType) (hty : ∀ k, k < N → parseFieldDescriptor (T k).2.2.1 = some (ty0 k)) (hnm : ∀ a, a < N → ∀ b, b < N → a ≠ b → (T a).2.1 ≠ (T b).2.1) (hown : s.vm.findClass own = some m.cls) (hK : va_K D cl tys s) (hP : xW D cl A M H) (hS0 : va_S A H0 H locs) {fs : List Value} (he : M a = some (.inr (ci, fs))) (hc : cl[ci]? = some (C, T, N)) (k : Nat) (hk : k < N) (hlink : (Cond.fieldLink own index ref (T k).2.1 (T k).2.2.1).before args s = true) (hsame : ∀ x, s.fieldFound? (T k).1 (T k).2.1 (T k).2.2.1 = some x → s.fieldFound? ref (T k).2.1 (T k).2.2.1 = some x) (hfin : (T k).2.2.2 = true) (hin2 : meth.name = "<init>") (hdecl : (T k).1 = own) {ty : FieldType} {v : Value} (hd : parseFieldDescriptor (T k).2.2.1 = some ty) (hn : narrow ty v = v) (hfit : fits ty v = true) (hl : k < fs.length)
    (hdg : decode cc pc = .ok (.putfield index, 3)) (kk : ∀ (H1 : Heap) (locs1 : List Loc), xW D cl A (xU M a (.inr (ci, fs.set k v))) H1 → va_S A H0 H1 locs1 → W p l e R s m args below meth c H1 locs1 cells slots Q (F0 m (pc + 3) ls rest)) : W p l e R s m args below meth c H locs cells slots Q (F0 m pc ls (v :: .ref a :: rest)) := by
  obtain ⟨ws, hP, hD, hE⟩ := hP
  obtain ⟨q0, h0⟩ := (hE _ _).mp he
  exact va_putF hexec hb hts hin ty0 hty hnm hown hK hP hD hS0 q0 h0 hc k hk hlink hsame hfin hin2 hdecl hd hn hfit hl hdg (fun H1 locs1 g1 g2 g3 => kk H1 locs1 ⟨_, g1, g2, hE.set hD h0⟩ g3)
theorem x_iald (hexec : p.tables.exec = Jvm.exec) (hb : c.code = cc) (hK : va_K D cl tys s) (hP : xW D cl A M H) (t0 : Nat) {cA : ClassId} {n : Nat} {f : Nat → Int32} (ha : M a = some (.inl (cA, n, .inl f))) (ht : tys[t0]? = some (cA, .int)) {i : Int32} (hin : vp_in i n) {v : Int32} (hv : f i.toNatClampNeg = v) (hdg : decode cc pc = .ok (.iaload, 1))
    (kk : W p l e R s m args below meth c H locs cells slots Q (F0 m (pc + 1) ls (.int v :: rest))) : W p l e R s m args below meth c H locs cells slots Q (F0 m pc ls (.int i :: .ref a :: rest)) := by
  obtain ⟨ws, hP, -, hE⟩ := hP
  obtain ⟨q0, h0⟩ := (hE _ _).mp ha
  exact va_iald hexec hb hK hP q0 t0 h0 ht hin hdg (by rw [hv]; exact kk)
theorem x_zald (hexec : p.tables.exec = Jvm.exec) (hb : c.code = cc) (hK : va_K D cl tys s) (hP : xW D cl A M H) (t0 : Nat) {cA : ClassId} {n : Nat} {f : Nat → Int32} (ha : M a = some (.inl (cA, n, .inl f))) (ht : tys[t0]? = some (cA, .boolean)) {i : Int32} (hin : vp_in i n) {v : Int32} (hv : f i.toNatClampNeg = v) (hdg : decode cc pc = .ok (.baload, 1))
    (kk : W p l e R s m args below meth c H locs cells slots Q (F0 m (pc + 1) ls (.int v :: rest))) : W p l e R s m args below meth c H locs cells slots Q (F0 m pc ls (.int i :: .ref a :: rest)) := by
  obtain ⟨ws, hP, -, hE⟩ := hP
  obtain ⟨q0, h0⟩ := (hE _ _).mp ha
  exact va_zald hexec hb hK hP q0 t0 h0 ht hin hdg (by rw [hv]; exact kk)
theorem x_aldq (hexec : p.tables.exec = Jvm.exec) (hb : c.code = cc) (hK : va_K D cl tys s) (hP : xW D cl A M H) (t0 : Nat) {cA : ClassId} {C : String} {n : Nat} {f : Nat → Option Nat} (ha : M a = some (.inl (cA, n, .inr (.inr (.inr (.inr f)))))) (ht : tys[t0]? = some (cA, .object C)) {i : Int32} (hin : vp_in i n) {v : Value} (hv : va_rf (f i.toNatClampNeg) = v) (hdg : decode cc pc = .ok (.aaload, 1))
    (kk : W p l e R s m args below meth c H locs cells slots Q (F0 m (pc + 1) ls (v :: rest))) : W p l e R s m args below meth c H locs cells slots Q (F0 m pc ls (.int i :: .ref a :: rest)) := by
  obtain ⟨ws, hP, -, hE⟩ := hP
  obtain ⟨q0, h0⟩ := (hE _ _).mp ha
  exact va_aldq hexec hb hK hP q0 t0 h0 ht hin hdg (by rw [hv]; exact kk)
theorem x_alen (hexec : p.tables.exec = Jvm.exec) (hb : c.code = cc) (hK : va_K D cl tys s) (hP : xW D cl A M H) (t0 : Nat) {cA : ClassId} {x : vp_A} (ha : M a = some (.inl (cA, x))) {ty : FieldType} (ht : tys[t0]? = some (cA, ty)) {v : Int32} (hv : Int32.ofNat x.1 = v) (hdg : decode cc pc = .ok (.arraylength, 1))
    (kk : W p l e R s m args below meth c H locs cells slots Q (F0 m (pc + 1) ls (.int v :: rest))) : W p l e R s m args below meth c H locs cells slots Q (F0 m pc ls (.ref a :: rest)) := by
  obtain ⟨ws, hP, -, hE⟩ := hP
  obtain ⟨q0, h0⟩ := (hE _ _).mp ha
  exact va_alen hexec hb hK hP q0 t0 h0 ht hv hdg kk
theorem x_iast (hexec : p.tables.exec = Jvm.exec) (hb : c.code = cc) (hK : va_K D cl tys s) (hP : xW D cl A M H) (hS : va_S A H0 H locs) (t0 : Nat) {cA : ClassId} {n : Nat} {f : Nat → Int32} (ha : M a = some (.inl (cA, n, .inl f))) (ht : tys[t0]? = some (cA, .int)) {i : Int32} {x : Int32} (hin : vp_in i n) (hdg : decode cc pc = .ok (.iastore, 1))
    (kk : ∀ (H1 : Heap) (locs1 : List Loc), xW D cl A (xU M a (.inl (cA, n, .inl (upd f i.toNatClampNeg x)))) H1 → va_S A H0 H1 locs1 → W p l e R s m args below meth c H1 locs1 cells slots Q (F0 m (pc + 1) ls rest)) : W p l e R s m args below meth c H locs cells slots Q (F0 m pc ls (.int x :: .int i :: .ref a :: rest)) := by
  obtain ⟨ws, hP, hD, hE⟩ := hP
  obtain ⟨q0, h0⟩ := (hE _ _).mp ha
  exact va_iast hexec hb hK hP hD hS q0 t0 h0 ht hin hdg (fun H1 locs1 g1 g2 g3 => kk H1 locs1 ⟨_, g1, g2, hE.set hD h0⟩ g3)
theorem x_zast (hexec : p.tables.exec = Jvm.exec) (hb : c.code = cc) (hK : va_K D cl tys s) (hP : xW D cl A M H) (hS : va_S A H0 H locs) (t0 : Nat) {cA : ClassId} {n : Nat} {f : Nat → Int32} (ha : M a = some (.inl (cA, n, .inl f))) (ht : tys[t0]? = some (cA, .boolean)) {i : Int32} {x : Int32} (hin : vp_in i n) (hdg : decode cc pc = .ok (.bastore, 1))
    (kk : ∀ (H1 : Heap) (locs1 : List Loc), xW D cl A (xU M a (.inl (cA, n, .inl (upd f i.toNatClampNeg (vp_nar .boolean x))))) H1 → va_S A H0 H1 locs1 → W p l e R s m args below meth c H1 locs1 cells slots Q (F0 m (pc + 1) ls rest)) : W p l e R s m args below meth c H locs cells slots Q (F0 m pc ls (.int x :: .int i :: .ref a :: rest)) := by
  obtain ⟨ws, hP, hD, hE⟩ := hP
  obtain ⟨q0, h0⟩ := (hE _ _).mp ha
  exact va_zast hexec hb hK hP hD hS q0 t0 h0 ht hin hdg (fun H1 locs1 g1 g2 g3 => kk H1 locs1 ⟨_, g1, g2, hE.set hD h0⟩ g3)
theorem x_astq (hexec : p.tables.exec = Jvm.exec) (hb : c.code = cc) (hK : va_K D cl tys s) (hP : xW D cl A M H) (hS : va_S A H0 H locs) (t0 ci : Nat) {cA : ClassId} {r : vw_C} {n v : Nat} {vs : List Value} {f : Nat → Option Nat} (ha : M a = some (.inl (cA, n, .inr (.inr (.inr (.inr f)))))) (ht : tys[t0]? = some (cA, .object r.1)) (hv : M v = some (.inr (ci, vs))) (hc : cl[ci]? = some r) {i : Int32} (hin : vp_in i n) (hdg : decode cc pc = .ok (.aastore, 1))
    (kk : ∀ (H1 : Heap) (locs1 : List Loc), xW D cl A (xU M a (.inl (cA, n, .inr (.inr (.inr (.inr (va_up f i.toNatClampNeg (some v)))))))) H1 → va_S A H0 H1 locs1 → W p l e R s m args below meth c H1 locs1 cells slots Q (F0 m (pc + 1) ls rest)) : W p l e R s m args below meth c H locs cells slots Q (F0 m pc ls (.ref v :: .int i :: .ref a :: rest)) := by
  obtain ⟨ws, hP, hD, hE⟩ := hP
  obtain ⟨q0, h0⟩ := (hE _ _).mp ha
  obtain ⟨qk, h1⟩ := (hE _ _).mp hv
  exact va_astq hexec hb hK hP hD hS q0 t0 qk ci h0 ht h1 hc hin hdg (fun H1 locs1 g1 g2 g3 => kk H1 locs1 ⟨_, g1, g2, hE.set hD h0⟩ g3)
theorem x_astqN (hexec : p.tables.exec = Jvm.exec) (hb : c.code = cc) (hK : va_K D cl tys s) (hP : xW D cl A M H) (hS : va_S A H0 H locs) (t0 : Nat) {cA : ClassId} {C : String} {n : Nat} {f : Nat → Option Nat} (ha : M a = some (.inl (cA, n, .inr (.inr (.inr (.inr f)))))) (ht : tys[t0]? = some (cA, .object C)) {i : Int32} (hin : vp_in i n) (hdg : decode cc pc = .ok (.aastore, 1))
    (kk : ∀ (H1 : Heap) (locs1 : List Loc), xW D cl A (xU M a (.inl (cA, n, .inr (.inr (.inr (.inr (va_up f i.toNatClampNeg none))))))) H1 → va_S A H0 H1 locs1 → W p l e R s m args below meth c H1 locs1 cells slots Q (F0 m (pc + 1) ls rest)) : W p l e R s m args below meth c H locs cells slots Q (F0 m pc ls (.null :: .int i :: .ref a :: rest)) := by
  obtain ⟨ws, hP, hD, hE⟩ := hP
  obtain ⟨q0, h0⟩ := (hE _ _).mp ha
  exact va_astqN hexec hb hK hP hD hS q0 t0 h0 ht hin hdg (fun H1 locs1 g1 g2 g3 => kk H1 locs1 ⟨_, g1, g2, hE.set hD h0⟩ g3)
/-- two array classes of one name are one -/
theorem xRA_i {cA cB : ClassId} (h1 : va_RA s cA .int) (h2 : va_RA s cB .int) : cA = cB := Option.some.inj (Eq.trans (Eq.symm h1) h2)
theorem xRA_z {cA cB : ClassId} (h1 : va_RA s cA .boolean) (h2 : va_RA s cB .boolean) : cA = cB := Option.some.inj (Eq.trans (Eq.symm h1) h2)
theorem xRA_q {C : String} {cA cB : ClassId} (h1 : va_RA s cA (.object C)) (h2 : va_RA s cB (.object C)) : cA = cB := by
  obtain ⟨_, _, -, -, -, a1⟩ := h1
  obtain ⟨_, _, -, -, -, a2⟩ := h2
  exact Option.some.inj (a1.symm.trans a2)
theorem xK_last {cA : ClassId} {ty : FieldType} (h : va_K D cl (tys ++ [(cA, ty)]) s) : va_RA s cA ty := (h.2 tys.length (cA, ty) (by simp)).2
theorem x_newi (hexec : p.tables.exec = Jvm.exec) (hb : c.code = cc) {atype : ArrayType} (harr : (Cond.arrayClass (newarray.typeOf atype)).before args s = true) (hty : newarray.typeOf atype = .int) (hK : va_K D cl tys s) (hP : xW D cl A M H) (hS : va_S A H0 H locs) (hA : ∀ q, H0.size ≤ q → A q) (t0 : Nat) {cA : ClassId} (ht : tys[t0]? = some (cA, .int))
    {n : Int32} {N' : Nat} (hn : ¬ n < 0) (hN : n.toNatClampNeg = N') (hbytes : N' * 4 ≤ 536870912) (hcells : cells + 1 ≤ R.cells) (hslots : slots + N' ≤ R.slots) (hdg : decode cc pc = .ok (.newarray atype, 2))
    (kk : ∀ (q : Nat) (H1 : Heap), M q = none → xW D cl A (xU M q (.inl (cA, N', .inl (fun _ => 0)))) H1 → va_S A H0 H1 locs →
      W p l e R s m args below meth c H1 locs (cells + 1) (slots + N') Q (F0 m (pc + 2) ls (.ref q :: rest))) : W p l e R s m args below meth c H locs cells slots Q (F0 m pc ls (.int n :: rest)) := by
  obtain ⟨ws, hP, hD, hE⟩ := hP
  refine va_newa (a0 := (N', .inl (fun _ => 0))) hexec hb harr hty hK hP hD hS hA (fun _ => rfl) hn hN hbytes hcells hslots hdg (fun q cB H1 g0 g1 g2 g3 => ?_)
  have hcc : cB = cA := xRA_i (xK_last g0) (hK.2 t0 _ ht).2
  subst hcc
  obtain ⟨h1, h2⟩ := hE.push g2
  exact kk q H1 h2 ⟨_, g1, g2, h1⟩ g3
theorem x_newz (hexec : p.tables.exec = Jvm.exec) (hb : c.code = cc) {atype : ArrayType} (harr : (Cond.arrayClass (newarray.typeOf atype)).before args s = true) (hty : newarray.typeOf atype = .boolean) (hK : va_K D cl tys s) (hP : xW D cl A M H) (hS : va_S A H0 H locs) (hA : ∀ q, H0.size ≤ q → A q) (t0 : Nat) {cA : ClassId} (ht : tys[t0]? = some (cA, .boolean))
    {n : Int32} {N' : Nat} (hn : ¬ n < 0) (hN : n.toNatClampNeg = N') (hbytes : N' * 1 ≤ 536870912) (hcells : cells + 1 ≤ R.cells) (hslots : slots + N' ≤ R.slots) (hdg : decode cc pc = .ok (.newarray atype, 2))
    (kk : ∀ (q : Nat) (H1 : Heap), M q = none → xW D cl A (xU M q (.inl (cA, N', .inl (fun _ => 0)))) H1 → va_S A H0 H1 locs →
      W p l e R s m args below meth c H1 locs (cells + 1) (slots + N') Q (F0 m (pc + 2) ls (.ref q :: rest))) : W p l e R s m args below meth c H locs cells slots Q (F0 m pc ls (.int n :: rest)) := by
  obtain ⟨ws, hP, hD, hE⟩ := hP
  refine va_newa (a0 := (N', .inl (fun _ => 0))) hexec hb harr hty hK hP hD hS hA (fun _ => rfl) hn hN hbytes hcells hslots hdg (fun q cB H1 g0 g1 g2 g3 => ?_)
  have hcc : cB = cA := xRA_z (xK_last g0) (hK.2 t0 _ ht).2
  subst hcc
  obtain ⟨h1, h2⟩ := hE.push g2
  exact kk q H1 h2 ⟨_, g1, g2, h1⟩ g3
theorem x_newq (hexec : p.tables.exec = Jvm.exec) (hb : c.code = cc) {own C : String} {index : Nat} (hown : s.vm.findClass own = some m.cls) (hclink : (Cond.classLink own index C).before args s = true) (hover : va_AO C s) (hK : va_K D cl tys s) (hP : xW D cl A M H) (hS : va_S A H0 H locs) (hA : ∀ q, H0.size ≤ q → A q) (t0 : Nat) {cA : ClassId} (ht : tys[t0]? = some (cA, .object C))
    {n : Int32} {N' : Nat} (hn : ¬ n < 0) (hN : n.toNatClampNeg = N') (hbytes : N' * 4 ≤ 536870912) (hcells : cells + 1 ≤ R.cells) (hslots : slots + N' ≤ R.slots) (hdg : decode cc pc = .ok (.anewarray index, 3))
    (kk : ∀ (q : Nat) (H1 : Heap), M q = none → xW D cl A (xU M q (.inl (cA, N', .inr (.inr (.inr (.inr (fun _ => none))))))) H1 → va_S A H0 H1 locs →
      W p l e R s m args below meth c H1 locs (cells + 1) (slots + N') Q (F0 m (pc + 3) ls (.ref q :: rest))) : W p l e R s m args below meth c H locs cells slots Q (F0 m pc ls (.int n :: rest)) := by
  obtain ⟨ws, hP, hD, hE⟩ := hP
  refine va_newq hexec hb hown hclink hover hK hP hD hS hA hn hN hbytes hcells hslots hdg (fun q cB H1 g0 g1 g2 g3 => ?_)
  have hcc : cB = cA := xRA_q (xK_last g0) (hK.2 t0 _ ht).2
  subst hcc
  obtain ⟨h1, h2⟩ := hE.push g2
  exact kk q H1 h2 ⟨_, g1, g2, h1⟩ g3
theorem x_new {c0 : Code} (hexec : p.tables.exec = Jvm.exec) (hb : c0.code = cc) {own C : String} {T : u_T} {N ci index : Nat} {Ts : List Cond} (hts : ∀ w ∈ Ts, w.before args s = true) (hin : ∀ w ∈ u_ws C T N, w ∈ Ts) (ty : Nat → FieldType) (hty : ∀ k, k < N → parseFieldDescriptor (T k).2.2.1 = some (ty k)) (hown : s.vm.findClass own = some m.cls) (hcl : (Cond.classLink own index C).before args s = true) (hinst : (Cond.instantiable C N).before args s = true) (hini : (Cond.initialized C).before args s = true)
    (hK : va_K D cl tys s) (hP : xW D cl A M H) (hS : va_S A H0 H locs) (hA : ∀ q, H0.size ≤ q → A q) (hc : cl[ci]? = some (C, T, N)) {fs : List Value} (hfs : ∀ j, j < N → defaultValue (ty j) = vp_V fs j) (hcells : cells + 1 ≤ R.cells) (hslots : slots + N ≤ R.slots) (hdg : decode cc pc = .ok (.new index, 3))
    (kk : ∀ (q : Nat) (H1 : Heap), M q = none → xW D cl A (xU M q (.inr (ci, fs))) H1 → va_S A H0 H1 locs →
      W p l e R s m args below meth c0 H1 locs (cells + 1) (slots + N) Q (F0 m (pc + 3) ls (.ref q :: rest))) : W p l e R s m args below meth c0 H locs cells slots Q (F0 m pc ls rest) := by
  obtain ⟨ws, hP, hD, hE⟩ := hP
  refine va_new hexec hb hts hin ty hty hown hcl hinst hini hK hP hD hS hA hc hfs hcells hslots hdg (fun q H1 g1 g2 g3 => ?_)
  obtain ⟨h1, h2⟩ := hE.push g2
  exact kk q H1 h2 ⟨_, g1, g2, h1⟩ g3
theorem x_copyi (hexec : p.tables.exec = Jvm.exec) (hb : c.code = cc) (hml : c.maxLocals = ls.size) {own : String} {index : Nat} (hown : s.vm.findClass own = some m.cls) (hlink : (Cond.methodLink own index arraycopyName).before args s = true) (hnat : (Cond.native arraycopyName).before args s = true) (hstat : (Cond.static arraycopyName).before args s = true) (hini : (Cond.initialized "java/lang/System").before args s = true)
    (hK : va_K D cl tys s) (hP : xW D cl A M H) (hS : va_S A H0 H locs) (t0 : Nat) {a0 : Nat} {c0 : ClassId} {n0 n1 : Nat} {f g : Nat → Int32} (ha0 : M a0 = some (.inl (c0, n0, .inl f))) (ha1 : M a = some (.inl (c0, n1, .inl g))) (ht0 : tys[t0]? = some (c0, .int))
    {sp dp n : Int32} (h1 : ¬ sp < 0) (h2 : ¬ dp < 0) (h3 : ¬ n < 0) (h4 : sp.toNatClampNeg + n.toNatClampNeg ≤ n0) (h5 : dp.toNatClampNeg + n.toNatClampNeg ≤ n1)
    (hframes : 1 ≤ R.frames) (hlocals : (rest.map fun v => v.category).sum + (nativeFrameWords "java/lang/System" "arraycopy" 5 + 11) ≤ R.locals) (hdg : decode cc pc = .ok (.invokestatic index, 3))
    (kk : ∀ (H1 : Heap) (locs1 : List Loc), xW D cl A (xU M a (.inl (c0, n1, .inl (va_cpy f g sp.toNatClampNeg dp.toNatClampNeg n.toNatClampNeg)))) H1 → va_S A H0 H1 locs1 → W p l e R s m args below meth c H1 locs1 cells slots Q (F0 m (pc + 3) ls rest)) : W p l e R s m args below meth c H locs cells slots Q (F0 m pc ls (.int n :: .int dp :: .ref a :: .int sp :: .ref a0 :: rest)) := by
  obtain ⟨ws, hP, hD, hE⟩ := hP
  obtain ⟨q0, g0⟩ := (hE _ _).mp ha0
  obtain ⟨q1, g1⟩ := (hE _ _).mp ha1
  exact va_copyi hexec hb hml hown hlink hnat hstat hini hK hP hD hS q0 q1 t0 t0 g0 g1 ht0 ht0 rfl h1 h2 h3 h4 h5 (fun _ _ => rfl) hframes hlocals hdg (fun H1 locs1 k1 k2 k3 => kk H1 locs1 ⟨_, k1, k2, hE.set hD g1⟩ k3)
end XC
/-! words of a call -/
section XCW
variable {R : Room} {s : State} {args : Array Value} {own host : String} {index maxL mc ms : Nat} {y : MethodName} {bytes : ByteArray} {ret : Option FieldType} {rm : Room}
theorem gB (n : Nat) (hg : ∀ w ∈ gw, w.before args s = true) (m1 : Cond.code y bytes maxL ret ∈ gw) (m2 : Cond.initialized y.cls ∈ gw) (m3 : Cond.methodLink own index y ∈ gw) (hrc : rm.cells = mc) (hrs : rm.slots = ms) (hd : y.cls ≠ "java/lang/invoke/MethodHandle" ∧ y.cls ≠ "java/lang/invoke/VarHandle" ∧ (parseMethodDescriptor y.desc).map (fun d => d.parameters.length) = some n) (hR : rm.frames + 1 ≤ R.frames ∧ 8 + (maxL + 11) + rm.locals ≤ R.locals) : CallB R s args own index y bytes maxL ret (Cond.code y bytes maxL ret :: gw) rm mc ms n := callB_of n hg (gi m1) rfl hrc hrs (hg _ m2) (hg _ m3) hd hR
theorem gV (n : Nat) (hg : ∀ w ∈ gw, w.before args s = true) (m1 : Cond.code y bytes maxL ret ∈ gw) (m2 : Cond.initialized y.cls ∈ gw) (m3 : Cond.methodLink own index y ∈ gw) (m4 : Cond.instanceMethod y ∈ gw) (m5 : Cond.selects y.cls y y ∈ gw) (hrc : rm.cells = mc) (hrs : rm.slots = ms) (hd : y.cls ≠ "java/lang/invoke/MethodHandle" ∧ y.cls ≠ "java/lang/invoke/VarHandle" ∧ (parseMethodDescriptor y.desc).map (fun d => d.parameters.length) = some n) (hR : rm.frames + 1 ≤ R.frames ∧ 8 + (maxL + 11) + rm.locals ≤ R.locals) : CallW R s args own y.cls index y bytes maxL ret (Cond.code y bytes maxL ret :: gw) rm mc ms n := ⟨gB n hg m1 m2 m3 hrc hrs hd hR, hg _ m4, hg _ m5⟩
theorem gS (n : Nat) (hg : ∀ w ∈ gw, w.before args s = true) (m1 : Cond.code y bytes maxL ret ∈ gw) (m2 : Cond.initialized y.cls ∈ gw) (m3 : Cond.methodLink own index y ∈ gw) (m4 : Cond.static y ∈ gw) (hrc : rm.cells = mc) (hrs : rm.slots = ms) (hd : y.cls ≠ "java/lang/invoke/MethodHandle" ∧ y.cls ≠ "java/lang/invoke/VarHandle" ∧ (parseMethodDescriptor y.desc).map (fun d => d.parameters.length) = some n) (hR : rm.frames + 1 ≤ R.frames ∧ 8 + (maxL + 11) + rm.locals ≤ R.locals) : CallB R s args own index y bytes maxL ret (Cond.code y bytes maxL ret :: gw) rm mc ms n ∧ (Cond.static y).before args s = true := ⟨gB n hg m1 m2 m3 hrc hrs hd hR, hg _ m4⟩
theorem gI (n : Nat) (hg : ∀ w ∈ gw, w.before args s = true) (m1 : Cond.code y bytes maxL none ∈ gw) (m2 : Cond.initialized y.cls ∈ gw) (m3 : Cond.methodLink own index y ∈ gw) (m4 : Cond.instanceMethod y ∈ gw) (hi : y.name = "<init>") (hrc : rm.cells = mc) (hrs : rm.slots = ms) (hd : y.cls ≠ "java/lang/invoke/MethodHandle" ∧ y.cls ≠ "java/lang/invoke/VarHandle" ∧ (parseMethodDescriptor y.desc).map (fun d => d.parameters.length) = some n) (hR : rm.frames + 1 ≤ R.frames ∧ 8 + (maxL + 11) + rm.locals ≤ R.locals) : CallB R s args own index y bytes maxL none (Cond.code y bytes maxL none :: gw) rm mc ms n ∧ y.name = "<init>" ∧ (Cond.instanceMethod y).before args s = true := ⟨gB n hg m1 m2 m3 hrc hrs hd hR, hi, hg _ m4⟩
theorem gNB (n : Nat) (hg : ∀ w ∈ gw, w.before args s = true) (hN : ∀ w ∈ xN, va_Nw w s) (m1 : Cond.code y bytes maxL ret ∈ gw) (m2 : Cond.initialized y.cls ∈ gw) (m3 : Cond.methodLinkNest own index y host ∈ xN) (hrc : rm.cells = mc) (hrs : rm.slots = ms) (hd : y.cls ≠ "java/lang/invoke/MethodHandle" ∧ y.cls ≠ "java/lang/invoke/VarHandle" ∧ (parseMethodDescriptor y.desc).map (fun d => d.parameters.length) = some n) (hR : rm.frames + 1 ≤ R.frames ∧ 8 + (maxL + 11) + rm.locals ≤ R.locals) : va_CN R s args own index y host bytes maxL ret (Cond.code y bytes maxL ret :: gw) rm mc ms n := va_cnB n hg (gi m1) rfl hrc hrs (hN _ m3) (hg _ m2) hd hR
theorem gNV (n : Nat) (hg : ∀ w ∈ gw, w.before args s = true) (hN : ∀ w ∈ xN, va_Nw w s) (m1 : Cond.code y bytes maxL ret ∈ gw) (m2 : Cond.initialized y.cls ∈ gw) (m3 : Cond.methodLinkNest own index y host ∈ xN) (m4 : Cond.instanceMethod y ∈ gw) (m5 : Cond.selects y.cls y y ∈ gw) (hrc : rm.cells = mc) (hrs : rm.slots = ms) (hd : y.cls ≠ "java/lang/invoke/MethodHandle" ∧ y.cls ≠ "java/lang/invoke/VarHandle" ∧ (parseMethodDescriptor y.desc).map (fun d => d.parameters.length) = some n) (hR : rm.frames + 1 ≤ R.frames ∧ 8 + (maxL + 11) + rm.locals ≤ R.locals) : va_CN R s args own index y host bytes maxL ret (Cond.code y bytes maxL ret :: gw) rm mc ms n ∧ (Cond.instanceMethod y).before args s = true ∧ (Cond.selects y.cls y y).before args s = true := ⟨gNB n hg hN m1 m2 m3 hrc hrs hd hR, hg _ m4, hg _ m5⟩
theorem gNS (n : Nat) (hg : ∀ w ∈ gw, w.before args s = true) (hN : ∀ w ∈ xN, va_Nw w s) (m1 : Cond.code y bytes maxL ret ∈ gw) (m2 : Cond.initialized y.cls ∈ gw) (m3 : Cond.methodLinkNest own index y host ∈ xN) (m4 : Cond.static y ∈ gw) (hrc : rm.cells = mc) (hrs : rm.slots = ms) (hd : y.cls ≠ "java/lang/invoke/MethodHandle" ∧ y.cls ≠ "java/lang/invoke/VarHandle" ∧ (parseMethodDescriptor y.desc).map (fun d => d.parameters.length) = some n) (hR : rm.frames + 1 ≤ R.frames ∧ 8 + (maxL + 11) + rm.locals ≤ R.locals) : va_CN R s args own index y host bytes maxL ret (Cond.code y bytes maxL ret :: gw) rm mc ms n ∧ (Cond.static y).before args s = true ∧ True := ⟨gNB n hg hN m1 m2 m3 hrc hrs hd hR, hg _ m4, trivial⟩
theorem gNI (n : Nat) (hg : ∀ w ∈ gw, w.before args s = true) (hN : ∀ w ∈ xN, va_Nw w s) (m1 : Cond.code y bytes maxL none ∈ gw) (m2 : Cond.initialized y.cls ∈ gw) (m3 : Cond.methodLinkNest own index y host ∈ xN) (m4 : Cond.instanceMethod y ∈ gw) (hi : y.name = "<init>") (hrc : rm.cells = mc) (hrs : rm.slots = ms) (hd : y.cls ≠ "java/lang/invoke/MethodHandle" ∧ y.cls ≠ "java/lang/invoke/VarHandle" ∧ (parseMethodDescriptor y.desc).map (fun d => d.parameters.length) = some n) (hR : rm.frames + 1 ≤ R.frames ∧ 8 + (maxL + 11) + rm.locals ≤ R.locals) : va_CN R s args own index y host bytes maxL none (Cond.code y bytes maxL none :: gw) rm mc ms n ∧ y.name = "<init>" ∧ (Cond.instanceMethod y).before args s = true := ⟨gNB n hg hN m1 m2 m3 hrc hrs hd hR, hi, hg _ m4⟩
end XCW
/-! bodies: a contract out of a walk from the first instruction; the end is given by rows for the return -/
section XB
variable {l : Launch} {y : MethodName} {rm : Room} {D : va_G} {T : Nat → ClassId} {A : Nat → Prop} {M : xM} {av : List Value} {cc : ByteArray} {maxL mc ms : Nat}
/-- what a body may use -/
def xB (p : Program) (s : State) (m : MethodId) (meth : Method) (c : Code) (y : MethodName) (cc : ByteArray) (maxL : Nat) (D : va_G) (T : Nat → ClassId) (av : List Value) : Prop :=
  p.tables.exec = Jvm.exec ∧ c.code = cc ∧ c.maxLocals = maxL ∧ s.vm.findClass y.cls = some m.cls ∧ (∀ w ∈ gw, w.before av.toArray s = true) ∧ xK D T s ∧ meth.name = y.name
theorem xMetRi {post : Option Value → Prop} (hy : plainName y.cls = true) (hlen : (lg_sl av).length ≤ maxL)
    (body : ∀ (p : Program) (e : Env) (s : State) (m : MethodId) (below : List Frame) (meth : Method) (c : Code) (Q : State → Prop) (ls : Array Slot), xB p s m meth c y cc maxL D T av → xW D classes A M s.heap → lv_has ls maxL (lv_args 0 av) →
      (∀ (pc : Nat) (ls : Array Slot) (v : Int32), decode cc pc = .ok (.ireturn, 1) → post (some (.int v)) → W p l e rm s m av.toArray below meth c s.heap [] 0 0 Q (F0 m pc ls [.int v])) →
      W p l e rm s m av.toArray below meth c s.heap [] 0 0 Q (F0 m 0 ls [])) : Met l y (Cond.code y cc maxL (some .int) :: gw) rm (xPc D T A M av) (xR post) 0 0 (fun _ => False) := by
  refine Met.ofW (cc := cc) (maxL := maxL) (ret := (some .int)) hy rfl ?_
  intro p e s m args below meth c s₁ B hml hv
  obtain ⟨rfl, hP, hK⟩ := hv
  have hlocks := B.notSynchronized
  have hts := atoms_spec (ws := Cond.code y cc maxL (some .int) :: gw) B.pre
  rw [lg_entry_eq]
  exact body p e s m below meth c _ _ ⟨B.exec, B.bytes, hml, findClass_of_methodNamed B.named, fun w hw => hts w (List.mem_cons_of_mem _ hw), hK, (name_of_methodNamed B.named B.method).1⟩ hP (lv_entry av hlen)
    (fun pc ls v hd hp => W.iret (v := v) B.exec B.bytes B.returns (fun t ht _ => ⟨_, rfl, hp, ht⟩) (fun _ h => by cases h) hd)
theorem xMetRz {post : Option Value → Prop} (hy : plainName y.cls = true) (hlen : (lg_sl av).length ≤ maxL)
    (body : ∀ (p : Program) (e : Env) (s : State) (m : MethodId) (below : List Frame) (meth : Method) (c : Code) (Q : State → Prop) (ls : Array Slot), xB p s m meth c y cc maxL D T av → xW D classes A M s.heap → lv_has ls maxL (lv_args 0 av) →
      (∀ (pc : Nat) (ls : Array Slot) (v : Int32), decode cc pc = .ok (.ireturn, 1) → (v = 0 ∨ v = 1) → post (some (.int v)) → W p l e rm s m av.toArray below meth c s.heap [] 0 0 Q (F0 m pc ls [.int v])) →
      W p l e rm s m av.toArray below meth c s.heap [] 0 0 Q (F0 m 0 ls [])) : Met l y (Cond.code y cc maxL (some .boolean) :: gw) rm (xPc D T A M av) (xR post) 0 0 (fun _ => False) := by
  refine Met.ofW (cc := cc) (maxL := maxL) (ret := (some .boolean)) hy rfl ?_
  intro p e s m args below meth c s₁ B hml hv
  obtain ⟨rfl, hP, hK⟩ := hv
  have hlocks := B.notSynchronized
  have hts := atoms_spec (ws := Cond.code y cc maxL (some .boolean) :: gw) B.pre
  rw [lg_entry_eq]
  exact body p e s m below meth c _ _ ⟨B.exec, B.bytes, hml, findClass_of_methodNamed B.named, fun w hw => hts w (List.mem_cons_of_mem _ hw), hK, (name_of_methodNamed B.named B.method).1⟩ hP (lv_entry av hlen)
    (fun pc ls v hd hz hp => W.zret (v := v) B.exec B.bytes B.returns (by rcases hz with rfl | rfl <;> rfl) (fun t ht _ => ⟨_, rfl, hp, ht⟩) (fun _ h => by cases h) hd)
theorem xMetRl {post : Option Value → Prop} (hy : plainName y.cls = true) (hlen : (lg_sl av).length ≤ maxL)
    (body : ∀ (p : Program) (e : Env) (s : State) (m : MethodId) (below : List Frame) (meth : Method) (c : Code) (Q : State → Prop) (ls : Array Slot), xB p s m meth c y cc maxL D T av → xW D classes A M s.heap → lv_has ls maxL (lv_args 0 av) →
      (∀ (pc : Nat) (ls : Array Slot) (v : Int64), decode cc pc = .ok (.lreturn, 1) → post (some (.long v)) → W p l e rm s m av.toArray below meth c s.heap [] 0 0 Q (F0 m pc ls [.long v])) →
      W p l e rm s m av.toArray below meth c s.heap [] 0 0 Q (F0 m 0 ls [])) : Met l y (Cond.code y cc maxL (some .long) :: gw) rm (xPc D T A M av) (xR post) 0 0 (fun _ => False) := by
  refine Met.ofW (cc := cc) (maxL := maxL) (ret := (some .long)) hy rfl ?_
  intro p e s m args below meth c s₁ B hml hv
  obtain ⟨rfl, hP, hK⟩ := hv
  have hlocks := B.notSynchronized
  have hts := atoms_spec (ws := Cond.code y cc maxL (some .long) :: gw) B.pre
  rw [lg_entry_eq]
  exact body p e s m below meth c _ _ ⟨B.exec, B.bytes, hml, findClass_of_methodNamed B.named, fun w hw => hts w (List.mem_cons_of_mem _ hw), hK, (name_of_methodNamed B.named B.method).1⟩ hP (lv_entry av hlen)
    (fun pc ls v hd hp => W.lret (v := v) B.exec B.bytes B.returns (fun t ht _ => ⟨_, rfl, hp, ht⟩) (fun _ h => by cases h) hd)
theorem xMetQi {post : Option Value → xM → Prop} (hy : plainName y.cls = true) (hlen : (lg_sl av).length ≤ maxL)
    (body : ∀ (p : Program) (e : Env) (s : State) (m : MethodId) (below : List Frame) (meth : Method) (c : Code) (Q : State → Prop) (ls : Array Slot), xB p s m meth c y cc maxL D T av → xW D classes A M s.heap → va_S A s.heap s.heap [] → lv_has ls maxL (lv_args 0 av) →
      (∀ (pc : Nat) (ls : Array Slot) (v : Int32) (M1 : xM) (H1 : Heap) (locs1 : List Loc), decode cc pc = .ok (.ireturn, 1) → xW D classes A M1 H1 → va_S A s.heap H1 locs1 → post (some (.int v)) M1 → W p l e rm s m av.toArray below meth c H1 locs1 mc ms Q (F0 m pc ls [.int v])) →
      W p l e rm s m av.toArray below meth c s.heap [] 0 0 Q (F0 m 0 ls [])) : Met l y (Cond.code y cc maxL (some .int) :: gw) rm (xPc D T A M av) (xQ D A post) mc ms A := by
  refine Met.ofW (cc := cc) (maxL := maxL) (ret := (some .int)) hy rfl ?_
  intro p e s m args below meth c s₁ B hml hv
  obtain ⟨rfl, hP, hK⟩ := hv
  have hlocks := B.notSynchronized
  have hts := atoms_spec (ws := Cond.code y cc maxL (some .int) :: gw) B.pre
  rw [lg_entry_eq]
  exact body p e s m below meth c _ _ ⟨B.exec, B.bytes, hml, findClass_of_methodNamed B.named, fun w hw => hts w (List.mem_cons_of_mem _ hw), hK, (name_of_methodNamed B.named B.method).1⟩ hP va_S.rf (lv_entry av hlen)
    (fun pc ls v M1 H1 locs1 hd hP1 hS1 hp => W.iret (v := v) B.exec B.bytes B.returns (fun t ht _ => ⟨_, M1, rfl, hp, by rw [ht]; exact hP1, hS1.F ht⟩) hS1.2.2 hd)
theorem xMetQv {post : Option Value → xM → Prop} (hy : plainName y.cls = true) (hlen : (lg_sl av).length ≤ maxL)
    (body : ∀ (p : Program) (e : Env) (s : State) (m : MethodId) (below : List Frame) (meth : Method) (c : Code) (Q : State → Prop) (ls : Array Slot), xB p s m meth c y cc maxL D T av → xW D classes A M s.heap → va_S A s.heap s.heap [] → lv_has ls maxL (lv_args 0 av) →
      (∀ (pc : Nat) (ls : Array Slot) (M1 : xM) (H1 : Heap) (locs1 : List Loc), decode cc pc = .ok (.return_, 1) → xW D classes A M1 H1 → va_S A s.heap H1 locs1 → post none M1 → W p l e rm s m av.toArray below meth c H1 locs1 mc ms Q (F0 m pc ls [])) →
      W p l e rm s m av.toArray below meth c s.heap [] 0 0 Q (F0 m 0 ls [])) : Met l y (Cond.code y cc maxL none :: gw) rm (xPc D T A M av) (xQ D A post) mc ms A := by
  refine Met.ofW (cc := cc) (maxL := maxL) (ret := none) hy rfl ?_
  intro p e s m args below meth c s₁ B hml hv
  obtain ⟨rfl, hP, hK⟩ := hv
  have hlocks := B.notSynchronized
  have hts := atoms_spec (ws := Cond.code y cc maxL none :: gw) B.pre
  rw [lg_entry_eq]
  exact body p e s m below meth c _ _ ⟨B.exec, B.bytes, hml, findClass_of_methodNamed B.named, fun w hw => hts w (List.mem_cons_of_mem _ hw), hK, (name_of_methodNamed B.named B.method).1⟩ hP va_S.rf (lv_entry av hlen)
    (fun pc ls M1 H1 locs1 hd hP1 hS1 hp => W.vret B.exec B.bytes B.returns (fun t ht _ => ⟨_, M1, rfl, hp, by rw [ht]; exact hP1, hS1.F ht⟩) hS1.2.2 hd)
theorem xMetNv {post : Option Value → xM → Prop} {sz : Nat} (hA : ∀ q, sz ≤ q → A q) (hy : plainName y.cls = true) (hlen : (lg_sl av).length ≤ maxL)
    (body : ∀ (p : Program) (e : Env) (s : State) (m : MethodId) (below : List Frame) (meth : Method) (c : Code) (Q : State → Prop) (ls : Array Slot), xB p s m meth c y cc maxL D T av → xW D classes A M s.heap → va_S A s.heap s.heap [] → (∀ q, s.heap.size ≤ q → A q) → lv_has ls maxL (lv_args 0 av) →
      (∀ (pc : Nat) (ls : Array Slot) (M1 : xM) (H1 : Heap) (locs1 : List Loc), decode cc pc = .ok (.return_, 1) → xW D classes A M1 H1 → va_S A s.heap H1 locs1 → post none M1 → W p l e rm s m av.toArray below meth c H1 locs1 mc ms Q (F0 m pc ls [])) →
      W p l e rm s m av.toArray below meth c s.heap [] 0 0 Q (F0 m 0 ls [])) : Met l y (Cond.code y cc maxL none :: gw) rm (xPn D T A M sz av) (xQ D A post) mc ms A := by
  refine Met.ofW (cc := cc) (maxL := maxL) (ret := none) hy rfl ?_
  intro p e s m args below meth c s₁ B hml hv
  obtain ⟨rfl, hP, hK, rfl⟩ := hv
  have hlocks := B.notSynchronized
  have hts := atoms_spec (ws := Cond.code y cc maxL none :: gw) B.pre
  rw [lg_entry_eq]
  exact body p e s m below meth c _ _ ⟨B.exec, B.bytes, hml, findClass_of_methodNamed B.named, fun w hw => hts w (List.mem_cons_of_mem _ hw), hK, (name_of_methodNamed B.named B.method).1⟩ hP va_S.rf hA (lv_entry av hlen)
    (fun pc ls M1 H1 locs1 hd hP1 hS1 hp => W.vret B.exec B.bytes B.returns (fun t ht _ => ⟨_, M1, rfl, hp, by rw [ht]; exact hP1, hS1.F ht⟩) hS1.2.2 hd)
end XB
