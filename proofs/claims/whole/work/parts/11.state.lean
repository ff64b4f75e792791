/-! the class's memory: cells by key (kind, file, place); the ints that they hold are one function g -/
abbrev eQ (cA : ClassId) (n : Nat) (f : Nat → Option Nat) : va_E := .inl (cA, n, .inr (.inr (.inr (.inr f))))
abbrev eI (cA : ClassId) (n : Nat) (f : Nat → Int32) : va_E := .inl (cA, n, .inl f)
def vG (N k f s : Nat) : Prop := (k < 12 ∧ f = 0 ∧ s = 0) ∨ (12 ≤ k ∧ k < 17 ∧ f < 6 ∧ s = 0) ∨ (17 ≤ k ∧ k < 21 ∧ f < 6 ∧ s < N)
def cG (T : Nat → ClassId) (ad : Nat → Nat → Nat → Nat) (K N : Nat) (h : Nat → Int32) (k f s : Nat) : va_E := match k with
  | 0 => .inr (3, [.int (nI K), .int (nI N), .ref (ad 1 0 0), .ref (ad 2 0 0), .ref (ad 3 0 0), .ref (ad 4 0 0), .ref (ad 5 0 0), .ref (ad 6 0 0), .ref (ad 9 0 0), .ref (ad 11 0 0), .int (h 0), .int (h 1)])
  | 1 => eI (T 1) N h
  | 2 => eI (T 1) N h
  | 3 => eQ (T 3) 6 (fun j => some (ad 12 j 0))
  | 4 => eI (T 0) K h
  | 5 => eI (T 0) K h
  | 6 => .inr (0, [.int (nI K), .ref (ad 7 0 0), .ref (ad 8 0 0)])
  | 7 => eI (T 0) K h
  | 8 => eI (T 0) K h
  | 9 => .inr (1, [.ref (ad 10 0 0), .int (h 0), .int (h 1), .int (h 2), .int (h 3)])
  | 10 => eI (T 0) N h
  | 11 => eI (T 0) 31 h
  | 12 => .inr (2, [.ref (ad 13 f 0), .ref (ad 14 f 0), .ref (ad 15 f 0), .ref (ad 16 f 0), .int (h 0), .int (h 1)])
  | 13 => eQ (T 2) N (fun j => some (ad 17 f j))
  | 14 => eQ (T 2) N (fun j => some (ad 19 f j))
  | 15 => eI (T 0) 31 h
  | 16 => eI (T 0) 31 h
  | 17 => .inr (1, [.ref (ad 18 f s), .int (h 0), .int (h 1), .int (h 2), .int (h 3)])
  | 18 => eI (T 0) N h
  | 19 => .inr (1, [.ref (ad 20 f s), .int (h 0), .int (h 1), .int (h 2), .int (h 3)])
  | _ => eI (T 0) N h
abbrev gT : Type := Nat → Nat → Nat → Nat → Int32
def gG (T : Nat → ClassId) (ad : Nat → Nat → Nat → Nat) (K N : Nat) (g : gT) (M : xM) : Prop := (∀ k f s, vG N k f s → M (ad k f s) = some (cG T ad K N (g k f s) k f s)) ∧ ∀ k f s k' f' s', vG N k f s → vG N k' f' s' → ad k f s = ad k' f' s' → k = k' ∧ f = f' ∧ s = s'
/-- the cells that are none of the class's stay -/
def fG (ad : Nat → Nat → Nat → Nat) (N : Nat) (M M1 : xM) : Prop := ∀ a, (∀ k f s, vG N k f s → ad k f s ≠ a) → M1 a = M a
def gR (T : Nat → ClassId) (ad : Nat → Nat → Nat → Nat) (K N : Nat) (M : xM) (g : gT) (M1 : xM) : Prop := gG T ad K N g M1 ∧ fG ad N M M1
def upS (g : gT) (k f s : Nat) (h : Nat → Int32) : gT := fun k1 f1 s1 => if k1 = k ∧ f1 = f ∧ s1 = s then h else g k1 f1 s1
theorem upS_s {g : gT} {k f s : Nat} {h : Nat → Int32} : upS g k f s h k f s = h := by simp [upS]
theorem upS_n {g : gT} {k f s k1 f1 s1 : Nat} {h : Nat → Int32} (q : ¬ (k1 = k ∧ f1 = f ∧ s1 = s)) : upS g k f s h k1 f1 s1 = g k1 f1 s1 := by simp [upS, q]
section GG
variable {T : Nat → ClassId} {ad : Nat → Nat → Nat → Nat} {K N : Nat} {g : gT} {M M0 M1 : xM}
theorem gG.rf (h : gG T ad K N g M) : gR T ad K N M g M := ⟨h, fun _ _ => rfl⟩
theorem gR.gg (h : gR T ad K N M0 g M) : gG T ad K N g M := h.1
theorem gR.tr {g1 : gT} (h : gR T ad K N M0 g M) (h1 : gR T ad K N M g1 M1) : gR T ad K N M0 g1 M1 := ⟨h1.1, fun a q => (h1.2 a q).trans (h.2 a q)⟩
theorem gG.ne (h : gG T ad K N g M) {k f s k' f' s' : Nat} (v : vG N k f s) (v' : vG N k' f' s') (q : ¬ (k = k' ∧ f = f' ∧ s = s')) : ad k f s ≠ ad k' f' s' := fun z => q (h.2 k f s k' f' s' v v' z)
theorem gR.set {k f s : Nat} {h' : Nat → Int32} {e : va_E} (h : gR T ad K N M0 g M) (v : vG N k f s) (he : e = cG T ad K N h' k f s) : gR T ad K N M0 (upS g k f s h') (xU M (ad k f s) e) := by
  subst he
  refine ⟨⟨fun k1 f1 s1 v1 => ?_, h.1.2⟩, fun a q => ?_⟩
  · by_cases hq : k1 = k ∧ f1 = f ∧ s1 = s
    · obtain ⟨rfl, rfl, rfl⟩ := hq
      rw [xU_s, upS_s]
    · rw [xU_n (h.1.ne v1 v hq), upS_n hq]
      exact h.1.1 k1 f1 s1 v1
  · rw [xU_n (fun z => q k f s v z.symm)]
    exact h.2 a q
theorem ga_0 (h : gG T ad K N g M) : M (ad 0 0 0) = some (cG T ad K N (g 0 0 0) 0 0 0) := h.1 0 0 0 (Or.inl ⟨by omega, rfl, rfl⟩)
theorem ga_1 (h : gG T ad K N g M) : M (ad 1 0 0) = some (cG T ad K N (g 1 0 0) 1 0 0) := h.1 1 0 0 (Or.inl ⟨by omega, rfl, rfl⟩)
theorem ga_2 (h : gG T ad K N g M) : M (ad 2 0 0) = some (cG T ad K N (g 2 0 0) 2 0 0) := h.1 2 0 0 (Or.inl ⟨by omega, rfl, rfl⟩)
theorem ga_3 (h : gG T ad K N g M) : M (ad 3 0 0) = some (cG T ad K N (g 3 0 0) 3 0 0) := h.1 3 0 0 (Or.inl ⟨by omega, rfl, rfl⟩)
theorem ga_4 (h : gG T ad K N g M) : M (ad 4 0 0) = some (cG T ad K N (g 4 0 0) 4 0 0) := h.1 4 0 0 (Or.inl ⟨by omega, rfl, rfl⟩)
theorem ga_5 (h : gG T ad K N g M) : M (ad 5 0 0) = some (cG T ad K N (g 5 0 0) 5 0 0) := h.1 5 0 0 (Or.inl ⟨by omega, rfl, rfl⟩)
theorem ga_6 (h : gG T ad K N g M) : M (ad 6 0 0) = some (cG T ad K N (g 6 0 0) 6 0 0) := h.1 6 0 0 (Or.inl ⟨by omega, rfl, rfl⟩)
theorem ga_7 (h : gG T ad K N g M) : M (ad 7 0 0) = some (cG T ad K N (g 7 0 0) 7 0 0) := h.1 7 0 0 (Or.inl ⟨by omega, rfl, rfl⟩)
theorem ga_8 (h : gG T ad K N g M) : M (ad 8 0 0) = some (cG T ad K N (g 8 0 0) 8 0 0) := h.1 8 0 0 (Or.inl ⟨by omega, rfl, rfl⟩)
theorem ga_9 (h : gG T ad K N g M) : M (ad 9 0 0) = some (cG T ad K N (g 9 0 0) 9 0 0) := h.1 9 0 0 (Or.inl ⟨by omega, rfl, rfl⟩)
theorem ga_10 (h : gG T ad K N g M) : M (ad 10 0 0) = some (cG T ad K N (g 10 0 0) 10 0 0) := h.1 10 0 0 (Or.inl ⟨by omega, rfl, rfl⟩)
theorem ga_11 (h : gG T ad K N g M) : M (ad 11 0 0) = some (cG T ad K N (g 11 0 0) 11 0 0) := h.1 11 0 0 (Or.inl ⟨by omega, rfl, rfl⟩)
theorem ga_12 (h : gG T ad K N g M) {f : Nat} (hf : f < 6) : M (ad 12 f 0) = some (cG T ad K N (g 12 f 0) 12 f 0) := h.1 12 f 0 (Or.inr (Or.inl ⟨by omega, by omega, hf, rfl⟩))
theorem ga_13 (h : gG T ad K N g M) {f : Nat} (hf : f < 6) : M (ad 13 f 0) = some (cG T ad K N (g 13 f 0) 13 f 0) := h.1 13 f 0 (Or.inr (Or.inl ⟨by omega, by omega, hf, rfl⟩))
theorem ga_14 (h : gG T ad K N g M) {f : Nat} (hf : f < 6) : M (ad 14 f 0) = some (cG T ad K N (g 14 f 0) 14 f 0) := h.1 14 f 0 (Or.inr (Or.inl ⟨by omega, by omega, hf, rfl⟩))
theorem ga_15 (h : gG T ad K N g M) {f : Nat} (hf : f < 6) : M (ad 15 f 0) = some (cG T ad K N (g 15 f 0) 15 f 0) := h.1 15 f 0 (Or.inr (Or.inl ⟨by omega, by omega, hf, rfl⟩))
theorem ga_16 (h : gG T ad K N g M) {f : Nat} (hf : f < 6) : M (ad 16 f 0) = some (cG T ad K N (g 16 f 0) 16 f 0) := h.1 16 f 0 (Or.inr (Or.inl ⟨by omega, by omega, hf, rfl⟩))
theorem ga_17 (h : gG T ad K N g M) {f s : Nat} (hf : f < 6) (hs : s < N) : M (ad 17 f s) = some (cG T ad K N (g 17 f s) 17 f s) := h.1 17 f s (Or.inr (Or.inr ⟨by omega, by omega, hf, hs⟩))
theorem ga_18 (h : gG T ad K N g M) {f s : Nat} (hf : f < 6) (hs : s < N) : M (ad 18 f s) = some (cG T ad K N (g 18 f s) 18 f s) := h.1 18 f s (Or.inr (Or.inr ⟨by omega, by omega, hf, hs⟩))
theorem ga_19 (h : gG T ad K N g M) {f s : Nat} (hf : f < 6) (hs : s < N) : M (ad 19 f s) = some (cG T ad K N (g 19 f s) 19 f s) := h.1 19 f s (Or.inr (Or.inr ⟨by omega, by omega, hf, hs⟩))
theorem ga_20 (h : gG T ad K N g M) {f s : Nat} (hf : f < 6) (hs : s < N) : M (ad 20 f s) = some (cG T ad K N (g 20 f s) 20 f s) := h.1 20 f s (Or.inr (Or.inr ⟨by omega, by omega, hf, hs⟩))
end GG
