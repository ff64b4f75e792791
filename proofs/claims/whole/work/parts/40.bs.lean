/-! what a constructor builds: at the keys of S stand new cells; b is the object itself, told apart -/
def bS (b : Nat) (S : Nat → Nat → Nat → Prop) (ad : Nat → Nat → Nat → Nat) (c : Nat → Nat → Nat → va_E) (M0 M : xM) : Prop :=
  (∀ k f s, S k f s → M (ad k f s) = some (c k f s) ∧ M0 (ad k f s) = none ∧ ad k f s ≠ b) ∧ (∀ k f s k' f' s', S k f s → S k' f' s' → ad k f s = ad k' f' s' → k = k' ∧ f = f' ∧ s = s') ∧ ∀ a, a ≠ b → (∀ k f s, S k f s → ad k f s ≠ a) → M a = M0 a
def sA (S : Nat → Nat → Nat → Prop) (k f s : Nat) : Nat → Nat → Nat → Prop := fun k1 f1 s1 => S k1 f1 s1 ∨ (k1 = k ∧ f1 = f ∧ s1 = s)
def uA {α : Type} (ad : Nat → Nat → Nat → α) (k f s : Nat) (q : α) : Nat → Nat → Nat → α := fun k1 f1 s1 => if k1 = k ∧ f1 = f ∧ s1 = s then q else ad k1 f1 s1
theorem uA_s {α : Type} {ad : Nat → Nat → Nat → α} {k f s : Nat} {q : α} : uA ad k f s q k f s = q := by simp [uA]
theorem uA_n {α : Type} {ad : Nat → Nat → Nat → α} {k f s k1 f1 s1 : Nat} {q : α} (h : ¬ (k1 = k ∧ f1 = f ∧ s1 = s)) : uA ad k f s q k1 f1 s1 = ad k1 f1 s1 := by simp [uA, h]
section BS
variable {b : Nat} {S S2 S' : Nat → Nat → Nat → Prop} {ad ad2 ad' : Nat → Nat → Nat → Nat} {c c2 c' : Nat → Nat → Nat → va_E} {M0 M M1 : xM} {e d : va_E} {k f s q : Nat}
theorem bS.nil (b : Nat) (ad : Nat → Nat → Nat → Nat) (c : Nat → Nat → Nat → va_E) (M : xM) : bS b (fun _ _ _ => False) ad c M M := ⟨fun _ _ _ h => h.elim, fun _ _ _ _ _ _ h => h.elim, fun _ _ _ => rfl⟩
theorem bS.own (h : bS b S ad c M0 M) (e : va_E) : bS b S ad c M0 (xU M b e) := ⟨fun k f s z => ⟨by rw [xU_n (h.1 k f s z).2.2]; exact (h.1 k f s z).1, (h.1 k f s z).2⟩, h.2.1, fun a ha z => by rw [xU_n ha]; exact h.2.2 a ha z⟩
theorem bS.set (h : bS b S ad c M0 M) (hk : S k f s) (hc : c' k f s = e) (hq : ∀ k1 f1 s1, S k1 f1 s1 → ¬ (k1 = k ∧ f1 = f ∧ s1 = s) → c' k1 f1 s1 = c k1 f1 s1) : bS b S ad c' M0 (xU M (ad k f s) e) := by
  refine ⟨fun k1 f1 s1 z => ⟨?_, (h.1 k1 f1 s1 z).2⟩, h.2.1, fun a ha z => ?_⟩
  · by_cases q : k1 = k ∧ f1 = f ∧ s1 = s
    · obtain ⟨rfl, rfl, rfl⟩ := q
      rw [xU_s, hc]
    · rw [xU_n (fun y => q (h.2.1 _ _ _ _ _ _ z hk y)), hq k1 f1 s1 z q]
      exact (h.1 k1 f1 s1 z).1
  · rw [xU_n (fun y => z k f s hk y.symm)]
    exact h.2.2 a ha z
theorem bS.set1 (h : bS b S ad c M0 M) (hk : S k f s) : bS b S ad (uA c k f s e) M0 (xU M (ad k f s) e) := h.set hk uA_s (fun _ _ _ _ z => uA_n z)
theorem bS.no (h : bS b S ad c M0 M) (hb : ∃ e, M b = some e) {a : Nat} (ha : M a = none) : a ≠ b ∧ M0 a = none ∧ ∀ k f s, S k f s → ad k f s ≠ a := by
  have h1 : a ≠ b := fun z => by
    obtain ⟨e, he⟩ := hb
    rw [z, he] at ha
    cases ha
  have h2 : ∀ k f s, S k f s → ad k f s ≠ a := fun k f s z y => by
    have := (h.1 k f s z).1
    rw [y, ha] at this
    cases this
  exact ⟨h1, by rw [← h.2.2 a h1 h2]; exact ha, h2⟩
theorem bS.keep (h2 : bS q S2 ad2 c2 (xU M q d) M1) (hq : M q = none) {a : Nat} (ha : M a = some e) : M1 a = some e := by
  have hne : a ≠ q := fun z => by
    rw [z, hq] at ha
    cases ha
  rw [h2.2.2 a hne (fun k f s z y => by
    have := (h2.1 k f s z).2
    rw [y, xU_n hne, ha] at this
    cases this.1), xU_n hne]
  exact ha
theorem bS.un {kq fq sq : Nat} (h : bS b S ad c M0 M) (hb : ∃ e, M b = some e) (hq : M q = none) (h2 : bS q S2 ad2 c2 (xU M q d) M1) (hq1 : M1 q = some e)
    (hi : ∀ k f s, S' k f s → (S k f s ∧ ad' k f s = ad k f s ∧ c' k f s = c k f s) ∨ (S2 k f s ∧ ad' k f s = ad2 k f s ∧ c' k f s = c2 k f s) ∨ ((k = kq ∧ f = fq ∧ s = sq) ∧ ad' k f s = q ∧ c' k f s = e))
    (ho : ∀ k f s, S k f s → S' k f s ∧ ad' k f s = ad k f s) (ho2 : ∀ k f s, S2 k f s → S' k f s ∧ ad' k f s = ad2 k f s) (ho3 : S' kq fq sq ∧ ad' kq fq sq = q) : bS b S' ad' c' M0 M1 := by
  have nq := h.no hb hq
  have n2 : ∀ k f s, S2 k f s → M (ad2 k f s) = none := fun k f s z => by
    have g := (h2.1 k f s z).2
    rw [xU_n g.2] at g
    exact g.1
  refine ⟨fun k f s z => ?_, fun k f s k' f' s' z z' => ?_, fun a ha z => ?_⟩
  · rcases hi k f s z with ⟨g1, g2, g3⟩ | ⟨g1, g2, g3⟩ | ⟨g1, g2, g3⟩
    · rw [g2, g3]
      exact ⟨h2.keep hq (h.1 k f s g1).1, (h.1 k f s g1).2⟩
    · rw [g2, g3]
      have n := h.no hb (n2 k f s g1)
      exact ⟨(h2.1 k f s g1).1, n.2.1, n.1⟩
    · rw [g2, g3]
      exact ⟨hq1, nq.2.1, nq.1⟩
  · rcases hi k f s z with ⟨g1, g2, g3⟩ | ⟨g1, g2, g3⟩ | ⟨g1, g2, g3⟩ <;> rcases hi k' f' s' z' with ⟨y1, y2, y3⟩ | ⟨y1, y2, y3⟩ | ⟨y1, y2, y3⟩ <;> rw [g2, y2]
    · exact fun w => h.2.1 _ _ _ _ _ _ g1 y1 w
    · exact fun w => absurd w ((h.no hb (n2 k' f' s' y1)).2.2 k f s g1)
    · exact fun w => absurd w (nq.2.2 k f s g1)
    · exact fun w => absurd w.symm ((h.no hb (n2 k f s g1)).2.2 k' f' s' y1)
    · exact fun w => h2.2.1 _ _ _ _ _ _ g1 y1 w
    · exact fun w => absurd w (h2.1 k f s g1).2.2
    · exact fun w => absurd w.symm (nq.2.2 k' f' s' y1)
    · exact fun w => absurd w.symm (h2.1 k' f' s' y1).2.2
    · exact fun _ => ⟨g1.1.trans y1.1.symm, g1.2.1.trans y1.2.1.symm, g1.2.2.trans y1.2.2.symm⟩
  · have hne : a ≠ q := fun w => z kq fq sq ho3.1 (by rw [ho3.2, w])
    rw [h2.2.2 a hne (fun k f s g => by rw [← (ho2 k f s g).2]; exact z k f s (ho2 k f s g).1), xU_n hne]
    exact h.2.2 a ha (fun k f s g => by rw [← (ho k f s g).2]; exact z k f s (ho k f s g).1)
theorem bS.add (h : bS b S ad c M0 M) (hb : ∃ e, M b = some e) (hq : M q = none) (hn : ¬ S k f s) : bS b (sA S k f s) (uA ad k f s q) (uA c k f s e) M0 (xU M q e) := by
  refine h.un (d := e) (kq := k) (fq := f) (sq := s) (e := e) hb hq (bS.nil q ad c _) xU_s (fun k1 f1 s1 z => ?_) (fun k1 f1 s1 z => ?_) (fun _ _ _ z => z.elim) ⟨Or.inr ⟨rfl, rfl, rfl⟩, uA_s⟩
  · rcases z with z | ⟨rfl, rfl, rfl⟩
    · have hne : ¬ (k1 = k ∧ f1 = f ∧ s1 = s) := fun y => hn (by obtain ⟨rfl, rfl, rfl⟩ := y; exact z)
      exact Or.inl ⟨z, uA_n hne, uA_n hne⟩
    · exact Or.inr (Or.inr ⟨⟨rfl, rfl, rfl⟩, uA_s, uA_s⟩)
  · have hne : ¬ (k1 = k ∧ f1 = f ∧ s1 = s) := fun y => hn (by obtain ⟨rfl, rfl, rfl⟩ := y; exact z)
    exact ⟨Or.inl z, uA_n hne⟩
theorem bS.congr (h : bS b S ad c M0 M) (hS : ∀ k f s, S' k f s ↔ S k f s) (hc : ∀ k f s, S' k f s → c' k f s = c k f s) : bS b S' ad c' M0 M := ⟨fun k f s z => by rw [hc k f s z]; exact h.1 k f s ((hS k f s).mp z), fun k f s k' f' s' z z' => h.2.1 _ _ _ _ _ _ ((hS k f s).mp z) ((hS k' f' s').mp z'), fun a ha z => h.2.2 a ha (fun k f s y => z k f s ((hS k f s).mpr y))⟩
theorem xU_kn (h : M q = none) {a : Nat} {e' : va_E} (ha : M a = some e') : xU M q e a = some e' := xU_k (fun z => by rw [z, h] at ha; cases ha) ha
/-- a new record: the object q, its fingerprints a -/
theorem bS.rec {k2 f2 s2 a : Nat} {e2 : va_E} (h : bS b S ad c M0 M) (hb : ∃ e, M b = some e) (hq : M q = none) (ha : xU M q d a = none) (hn : ¬ S k f s) (hn2 : ¬ S k2 f2 s2) (hkk : ¬ (k2 = k ∧ f2 = f ∧ s2 = s)) : bS b (sA (sA S k f s) k2 f2 s2) (uA (uA ad k f s q) k2 f2 s2 a) (uA (uA (uA c k f s d) k2 f2 s2 e2) k f s e) M0 (xU (xU (xU M q d) a e2) q e) := by
  obtain ⟨e0, he0⟩ := hb
  have h1 := h.add (e := d) ⟨e0, he0⟩ hq hn
  have h2 := h1.add (e := e2) (k := k2) (f := f2) (s := s2) ⟨e0, xU_kn hq he0⟩ ha (fun z => z.elim hn2 hkk)
  have h3 := h2.set1 (k := k) (f := f) (s := s) (e := e) (Or.inl (Or.inr ⟨rfl, rfl, rfl⟩))
  rw [uA_n (fun z => hkk ⟨z.1.symm, z.2.1.symm, z.2.2.symm⟩), uA_s] at h3
  exact h3
end BS
theorem arq_congr {cA : ClassId} {n : Nat} {f f' : Nat → Option Nat} (h : ∀ j, j < n → f j = f' j) : vp_cell cA (n, .inr (.inr (.inr (.inr f)))) = vp_cell cA (n, .inr (.inr (.inr (.inr f')))) := by
  rw [vp_cell_q, vp_cell_q]
  unfold arrV
  congr 1
  apply Array.ext_getElem?
  intro i
  simp
  by_cases hi : i < n
  · simp [hi, h i hi]
  · simp [hi]
theorem xW.extq {D : va_G} {cl : List vw_C} {A : Nat → Prop} {M : xM} {H : Heap} {a n : Nat} {cA : ClassId} {f f' : Nat → Option Nat} (h : xW D cl A M H) (ha : M a = some (eQ cA n f)) (hf : ∀ j, j < n → f j = f' j) : xW D cl A (xU M a (eQ cA n f')) H := by
  obtain ⟨ws, hP, hD, hE⟩ := h
  obtain ⟨q0, h0⟩ := (hE a _).mp ha
  have hE2 := hE.set (e := eQ cA n f') hD h0
  refine ⟨_, ?_, hD.set h0, hE2⟩
  refine hP.set hD h0 ?_ (fun _ _ => rfl)
  show H[a]? = some (vp_cell cA (n, .inr (.inr (.inr (.inr f')))))
  rw [← arq_congr hf]
  exact hP q0 _ h0
