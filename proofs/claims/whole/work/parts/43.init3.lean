section BS2
variable {b : Nat} {S S' : Nat → Nat → Nat → Prop} {ad ad' : Nat → Nat → Nat → Nat} {c c' : Nat → Nat → Nat → va_E} {M0 M : xM} {e0 d o e1 : va_E} {q a1 a2 : Nat}
theorem bS.cad (h : bS b S ad c M0 M) (hS : ∀ k f s, S' k f s ↔ S k f s) (ha : ∀ k f s, S' k f s → ad' k f s = ad k f s) (hc : ∀ k f s, S' k f s → c' k f s = c k f s) : bS b S' ad' c' M0 M := ⟨fun k f s z => by rw [hc k f s z, ha k f s z]; exact h.1 k f s ((hS k f s).mp z), fun k f s k' f' s' z z' => by rw [ha k f s z, ha k' f' s' z']; exact h.2.1 _ _ _ _ _ _ ((hS k f s).mp z) ((hS k' f' s').mp z'), fun a hab z => h.2.2 a hab (fun k f s y => by rw [← ha k f s ((hS k f s).mpr y)]; exact z k f s ((hS k f s).mpr y))⟩
theorem bS.rec2 {k f s k2 f2 s2 : Nat} (h : bS b S ad c M0 M) (hb : M b = some e0) (hq : M q = none) (ha : xU M q d a1 = none) (hn : ¬ S k f s) (hn2 : ¬ S k2 f2 s2) (hkk : ¬ (k2 = k ∧ f2 = f ∧ s2 = s)) : bS b (sA (sA S k f s) k2 f2 s2) (uA (uA ad k f s q) k2 f2 s2 a1) (uA (uA (uA c k f s d) k2 f2 s2 e1) k f s o) M0 (xU (xU (xU M q d) a1 e1) q o) ∧ xU (xU (xU M q d) a1 e1) q o b = some e0 := by
  refine ⟨h.rec ⟨_, hb⟩ hq ha hn hn2 hkk, ?_⟩
  have hbq : b ≠ q := fun z => by
    rw [z, hq] at hb
    cases hb
  rw [xU_n hbq]
  exact xU_kn ha (xU_kn hq hb)
theorem bS.cod (h : bS b S ad c M0 M) (hb : M b = some e0) (hq : M q = none) (ha1 : xU M q d a1 = none) (ha2 : xU M q d a2 = none) (h12 : a1 ≠ a2) (hn6 : ¬ S 6 0 0) (hn7 : ¬ S 7 0 0) (hn8 : ¬ S 8 0 0) : bS b (sA (sA (sA S 6 0 0) 7 0 0) 8 0 0) (uA (uA (uA ad 6 0 0 q) 7 0 0 a1) 8 0 0 a2) (uA (uA (uA (uA c 6 0 0 d) 7 0 0 e1) 8 0 0 e1) 6 0 0 o) M0 (xU (xU (xU (xU M q d) a1 e1) a2 e1) q o) ∧ xU (xU (xU (xU M q d) a1 e1) a2 e1) q o b = some e0 := by
  have hbq : b ≠ q := fun z => by
    rw [z, hq] at hb
    cases hb
  have h1 := h.add (e := d) (k := 6) (f := 0) (s := 0) ⟨_, hb⟩ hq hn6
  have g1 := xU_kn (e := d) hq hb
  have h2 := h1.add (e := e1) (k := 7) (f := 0) (s := 0) ⟨_, g1⟩ ha1 (fun z => z.elim hn7 (fun y => absurd y.1 (by decide)))
  have g2 := xU_kn (e := e1) ha1 g1
  have ha2' : xU (xU M q d) a1 e1 a2 = none := by rw [xU_n (Ne.symm h12)]; exact ha2
  have h3 := h2.add (e := e1) (k := 8) (f := 0) (s := 0) ⟨_, g2⟩ ha2' (fun z => z.elim (fun y => y.elim hn8 (fun w => absurd w.1 (by decide))) (fun y => absurd y.1 (by decide)))
  have g3 := xU_kn (e := e1) ha2' g2
  have h4 := h3.set1 (k := 6) (f := 0) (s := 0) (e := o) (Or.inl (Or.inl (Or.inr ⟨rfl, rfl, rfl⟩)))
  have e6 : uA (uA (uA ad 6 0 0 q) 7 0 0 a1) 8 0 0 a2 6 0 0 = q := by simp [uA]
  rw [e6] at h4
  exact ⟨h4, by rw [xU_n hbq]; exact g3⟩
end BS2
def g0F (N : Nat) : gT := fun k _ _ j => if k = 1 ∧ j < N then 1 else 0
def sH (N j k f s : Nat) : Prop := (1 ≤ k ∧ k < j ∧ f = 0 ∧ s = 0) ∨ (12 ≤ k ∧ k < 17 ∧ f < 6 ∧ s = 0) ∨ (17 ≤ k ∧ k < 21 ∧ f < 6 ∧ s < N)
def vH (N k f s : Nat) : Prop := sH N 12 k f s
theorem sH_1 {N j : Nat} (hj : 1 ≤ j) (hj2 : j < 12) (k f s : Nat) : sH N (j + 1) k f s ↔ sA (sH N j) j 0 0 k f s := by
  simp only [sH, sA]
  omega
theorem sH_n {N j i : Nat} (hj : j ≤ i) (hi : i < 12) : ¬ sH N j i 0 0 := by
  simp only [sH]
  omega
def sG (N i k f s : Nat) : Prop := ((k = 1 ∨ k = 2 ∨ k = 3) ∧ f = 0 ∧ s = 0) ∨ (12 ≤ k ∧ k < 17 ∧ f < i ∧ s = 0) ∨ (17 ≤ k ∧ k < 21 ∧ f < i ∧ s < N)
theorem sH_4 {N k f s : Nat} : sH N 4 k f s ↔ sG N 6 k f s := by
  simp only [sH, sG]
  omega
def cI (T : Nat → ClassId) (ad : Nat → Nat → Nat → Nat) (N i k f s : Nat) : va_E := match k with
  | 1 => eI (T 1) N (fun j => if j < N then 1 else 0)
  | 2 => eI (T 1) N (fun _ => 0)
  | 3 => eQ (T 3) 6 (fun j => if j < i then some (ad 12 j 0) else none)
  | k => cG T ad 0 N (fun _ => 0) k f s
def iH (T : Nat → ClassId) (b K N i : Nat) (ad : Nat → Nat → Nat → Nat) (M0 M : xM) : Prop := bS b (sG N i) ad (cI T ad N i) M0 M ∧ M b = some (.inr (3, [.int (nI K), .int (nI N), .ref (ad 1 0 0), .ref (ad 2 0 0), .ref (ad 3 0 0), .null, .null, .null, .null, .null, .int 0, .int 0]))
def aJ (ad ad2 : Nat → Nat → Nat → Nat) (q i k f s : Nat) : Nat := if 12 ≤ k ∧ f = i then (if k = 12 then q else ad2 k f s) else ad k f s
set_option maxHeartbeats 2000000 in
theorem iH_s {T : Nat → ClassId} {b K N i q : Nat} {ad ad2 : Nat → Nat → Nat → Nat} {M0 M M1 : xM} {d : va_E} (h : iH T b K N i ad M0 M) (hq : M q = none) (h2 : bS q (vF N i) ad2 (fun k f s => cG T ad2 0 N (fun _ => 0) k f s) (xU M q d) M1) (hq1 : M1 q = some (.inr (2, [.ref (ad2 13 i 0), .ref (ad2 14 i 0), .ref (ad2 15 i 0), .ref (ad2 16 i 0), .int 0, .int 0]))) : M1 (ad 3 0 0) = some (eQ (T 3) 6 (fun j => if j < i then some (ad 12 j 0) else none)) ∧ iH T b K N (i + 1) (aJ ad ad2 q i) M0 (xU M1 (ad 3 0 0) (eQ (T 3) 6 (va_up (fun j => if j < i then some (ad 12 j 0) else none) i (some q)))) := by
  have m3 : sG N i 3 0 0 := Or.inl ⟨Or.inr (Or.inr rfl), rfl, rfl⟩
  have g3 := h.1.1 3 0 0 m3
  have h1 : bS b (fun k f s => sG N i k f s ∨ vF N i k f s ∨ (k = 12 ∧ f = i ∧ s = 0)) (aJ ad ad2 q i) (cI T (aJ ad ad2 q i) N i) M0 M1 := by
    refine h.1.un (kq := 12) (fq := i) (sq := 0) ⟨_, h.2⟩ hq h2 hq1 (fun k f s z => ?_) (fun k f s z => ⟨Or.inl z, ?_⟩) (fun k f s z => ⟨Or.inr (Or.inl z), ?_⟩) ⟨Or.inr (Or.inr ⟨rfl, rfl, rfl⟩), ?_⟩
    · rcases z with z | z | ⟨rfl, rfl, rfl⟩
      · refine Or.inl ⟨z, ?_, ?_⟩
        · simp only [sG] at z
          simp only [aJ]
          rw [if_neg (by omega)]
        · simp only [sG] at z
          by_cases hk : k < 12
          · have hk3 : k = 1 ∨ k = 2 ∨ k = 3 := by omega
            rcases hk3 with rfl | rfl | rfl
            · rfl
            · rfl
            · simp only [cI]
              congr 5
              funext j
              by_cases hj : j < i
              · simp [hj, aJ, show ¬ j = i by omega]
              · simp [hj]
          · have hk9 : k = 12 ∨ k = 13 ∨ k = 14 ∨ k = 15 ∨ k = 16 ∨ k = 17 ∨ k = 18 ∨ k = 19 ∨ k = 20 := by omega
            have hfi : ¬ f = i := by omega
            rcases hk9 with rfl | rfl | rfl | rfl | rfl | rfl | rfl | rfl | rfl <;> simp [cI, cG, aJ, hfi]
      · refine Or.inr (Or.inl ⟨z, ?_, ?_⟩)
        · simp only [vF] at z
          simp only [aJ]
          rw [if_pos (by omega), if_neg (by omega)]
        · simp only [vF] at z
          have hfi : f = i := z.1
          subst hfi
          have hk8 : k = 13 ∨ k = 14 ∨ k = 15 ∨ k = 16 ∨ k = 17 ∨ k = 18 ∨ k = 19 ∨ k = 20 := by omega
          rcases hk8 with rfl | rfl | rfl | rfl | rfl | rfl | rfl | rfl <;> simp [cI, cG, aJ]
      · refine Or.inr (Or.inr ⟨⟨rfl, rfl, rfl⟩, ?_, ?_⟩)
        · simp [aJ]
        · simp [cI, cG, aJ]
    · simp only [sG] at z
      simp only [aJ]
      rw [if_neg (by omega)]
    · simp only [vF] at z
      simp only [aJ]
      rw [if_pos (by omega), if_neg (by omega)]
    · simp [aJ]
  have e3 : aJ ad ad2 q i 3 0 0 = ad 3 0 0 := by simp [aJ]
  have n3 := h2.keep hq g3.1
  refine ⟨n3, ?_, ?_⟩
  · have h3 := h1.set (k := 3) (f := 0) (s := 0) (c' := cI T (aJ ad ad2 q i) N (i + 1)) (e := eQ (T 3) 6 (va_up (fun j => if j < i then some (ad 12 j 0) else none) i (some q))) (Or.inl m3) ?_ ?_
    · rw [e3] at h3
      refine h3.congr (fun k f s => ?_) (fun _ _ _ _ => rfl)
      simp only [sG, vF]
      omega
    · simp only [cI]
      congr 5
      funext x
      simp only [va_up]
      by_cases hx : x = i
      · simp [hx, aJ]
      · have hxx : x < i + 1 ↔ x < i := by omega
        simp [hx, hxx, aJ]
    · intro k f s z y
      simp only [sG, vF] at z
      have hk : k = 1 ∨ k = 2 ∨ 12 ≤ k := by omega
      rcases hk with rfl | rfl | hk
      · rfl
      · rfl
      · have hk9 : k = 12 ∨ k = 13 ∨ k = 14 ∨ k = 15 ∨ k = 16 ∨ k = 17 ∨ k = 18 ∨ k = 19 ∨ k = 20 := by omega
        rcases hk9 with rfl | rfl | rfl | rfl | rfl | rfl | rfl | rfl | rfl <;> rfl
  · rw [xU_n g3.2.2.symm]
    have n0 := h2.keep hq h.2
    rw [n0]
    simp [aJ]
