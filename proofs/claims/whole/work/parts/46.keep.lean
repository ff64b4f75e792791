/-! what stays true over the calls; the two memories side by side; the start -/
section KEEP
variable {K N : Nat} {g g' : gT} {q : Nat} {w : Nat → Nat}
theorem iG_of (h : iG N g q w) (h0 : g' 0 0 0 0 = g 0 0 0 0) (h12 : ∀ f, f < 6 → g' 12 f 0 1 = g 12 f 0 1) (h17 : ∀ f s, f < 6 → s < N → g' 17 f s 0 = 0 ∨ g' 17 f s 0 = 1) (h19 : ∀ f s, f < 6 → s < N → g' 19 f s 0 = 0 ∨ g' 19 f s 0 = 1) : iG N g' q w := ⟨h0.trans h.1, h.2.1, fun f hf => ⟨(h12 f hf).trans (h.2.2.1 f hf).1, (h.2.2.1 f hf).2⟩, fun f s hf hs => ⟨h17 f s hf hs, h19 f s hf hs⟩⟩
theorem iG_same (h : iG N g q w) (h0 : g' 0 0 0 0 = g 0 0 0 0) (h12 : ∀ f, g' 12 f 0 = g 12 f 0) (h17 : ∀ f s, g' 17 f s = g 17 f s) (h19 : ∀ f s, g' 19 f s = g 19 f s) : iG N g' q w := iG_of h h0 (fun f _ => by rw [h12]) (fun f s hf hs => by rw [h17]; exact (h.2.2.2 f s hf hs).1) (fun f s hf hs => by rw [h19]; exact (h.2.2.2 f s hf hs).2)
theorem iG_draft (h : iG N g q w) (x y : Int32) : iG N (aDraft K g x y).2 q w := by
  unfold aDraft
  split
  · exact h
  · exact iG_same h (by simp [upS]) (fun f => by simp [upS]) (fun f s => by simp [upS]) (fun f s => by simp [upS])
theorem iG_server (h : iG N g q w) (x u k : Int32) : iG N (aServer N g x u k).2 q w := by
  unfold aServer
  split
  · exact h
  · exact iG_same h (by simp [upS]) (fun f => by simp [upS]) (fun f s => by simp [upS]) (fun f s => by simp [upS])
theorem iG_wipe (h : iG N g q w) (x y : Int32) : iG N (aWipe N g x y).2 q w := by
  unfold aWipe
  split
  · exact h
  · split
    · exact h
    · refine iG_of h (by simp [upS]) (fun f _ => by simp [upS]) (fun f s hf hs => ?_) (fun f s hf hs => by simpa [upS] using (h.2.2.2 f s hf hs).2)
      by_cases z : f = x.toNatClampNeg ∧ s = y.toNatClampNeg
      · obtain ⟨rfl, rfl⟩ := z
        left
        dsimp only
        rw [upS_s, pk_us]
      · simp only [upS, z, and_false, if_false]
        exact (h.2.2.2 f s hf hs).1
theorem iG_create (h : iG N g q w) (x : Int32) : ∃ q', iG N (aCreate g q x).2 q' w := by
  unfold aCreate
  split
  · exact ⟨q, h⟩
  · split
    · exact ⟨q, h⟩
    · refine ⟨q + 1, ?_, by omega, fun f hf => ?_, fun f s hf hs => by simpa [upS] using h.2.2.2 f s hf hs⟩
      · dsimp only
        rw [upS_s, pk_us]
      · refine ⟨?_, (h.2.2.1 f hf).2⟩
        rw [← (h.2.2.1 f hf).1]
        by_cases z : f = q
        · subst z
          simp [upS, upd]
        · simp [upS, z]
theorem iG_picture (h : iG N g q w) (x y : Int32) : iG N (aPicture N g x y).2 q w := by
  unfold aPicture
  split
  · exact h
  · split
    · exact h
    · split
      · exact h
      · refine iG_of h (by simp [cpS, upS]) (fun f _ => by simp [cpS, upS]) (fun f s hf hs => by simpa [cpS, upS] using (h.2.2.2 f s hf hs).1) (fun f s hf hs => ?_)
        by_cases z : f = x.toNatClampNeg ∧ s = y.toNatClampNeg
        · obtain ⟨rfl, rfl⟩ := z
          simpa [cpS, upS] using (h.2.2.2 _ _ hf hs).1
        · simpa [cpS, upS, z] using (h.2.2.2 f s hf hs).2
theorem iG_fall (h : iG N g q w) (x y : Int32) : iG N (aFall N g x y).2 q w := by
  unfold aFall
  split
  · exact h
  · split
    · exact h
    · split
      · exact h
      · refine iG_of h (by simp [cpS, upS]) (fun f _ => by simp [cpS, upS]) (fun f s hf hs => ?_) (fun f s hf hs => by simpa [cpS, upS] using (h.2.2.2 f s hf hs).2)
        by_cases z : f = x.toNatClampNeg ∧ s = y.toNatClampNeg
        · obtain ⟨rfl, rfl⟩ := z
          simpa [cpS, upS] using (h.2.2.2 _ _ hf hs).2
        · simpa [cpS, upS, z] using (h.2.2.2 f s hf hs).1
theorem iG_17 (h : iG N g q w) {f0 s0 j : Nat} {v : Int32} (hj : j ≠ 0) : iG N (upS g 17 f0 s0 (upd (g 17 f0 s0) j v)) q w := by
  refine iG_of h (by simp [upS]) (fun f _ => by simp [upS]) (fun f s hf hs => ?_) (fun f s hf hs => by simpa [upS] using (h.2.2.2 f s hf hs).2)
  by_cases z : f = f0 ∧ s = s0
  · obtain ⟨rfl, rfl⟩ := z
    rw [upS_s, pk_un (Ne.symm hj)]
    exact (h.2.2.2 f s hf hs).1
  · simpa [upS, z] using (h.2.2.2 f s hf hs).1
theorem iG_tamper (h : iG N g q w) (x y z u : Int32) : iG N (aTamper N g x y z u).2 q w := by
  unfold aTamper
  split
  · exact h
  · split
    · exact h
    · split
      · exact h
      · split
        · split
          · exact h
          · show iG N (tmG g x.toNatClampNeg y.toNatClampNeg z u) q w
            unfold tmG
            split
            · exact iG_17 h (by decide)
            · split
              · exact iG_17 h (by decide)
              · split
                · exact iG_17 h (by decide)
                · exact iG_same h (by simp [upS]) (fun f => by simp [upS]) (fun f s => by simp [upS]) (fun f s => by simp [upS])
        · exact h
theorem iG_best (h : iG N g q w) (e : Nat → Int32) : iG N (upS g 11 0 0 e) q w := iG_same h (by simp [upS]) (fun f => by simp [upS]) (fun f s => by simp [upS]) (fun f s => by simp [upS])
theorem iG_write (h : iG N g q w) {x : Int32} (hst : stW K N g g' q w x) : ∃ w', iG N g' q w' := by
  by_cases ok : okW K N g q w x
  · obtain ⟨f0, hf0, ef⟩ := fuF_ge ok.1
    have hr := hst.1 ok
    have hw30 := ok.2.2
    have hq6 := h.2.1
    rw [ef, nI_clamp (by omega)] at hr hw30
    obtain ⟨r0, r12, -, rw1, -, -, r17, r17s⟩ := hr
    refine ⟨fun f => if f = f0 then w f0 + 1 else w f, ?_, hq6, fun f hf => ?_, fun f s hf hs => ⟨?_, ?_⟩⟩
    · rw [r0 0 0 0 (by omega)]
      exact h.1
    · by_cases z : f = f0
      · subst z
        simp only [if_true]
        exact ⟨rw1, by omega⟩
      · simp only [z, if_false]
        rw [r12 12 f (by omega) z]
        exact h.2.2.1 f hf
    · by_cases z : f = f0
      · by_cases tk : tkV g s = 0
        · rw [(r17 f s (Or.inr tk)).1]
          exact (h.2.2.2 f s hf hs).1
        · subst z
          right
          exact (r17s s hs tk).1
      · rw [(r17 f s (Or.inl z)).1]
        exact (h.2.2.2 f s hf hs).1
    · rw [r0 19 f s (by omega)]
      exact (h.2.2.2 f s hf hs).2
  · rw [hst.2 ok]
    exact ⟨w, h⟩
theorem iG_kp (h : iG N g q w) (hk : kpS g g') : iG N g' q w := iG_same h (by rw [hk 0 0 0 (by decide) (by decide) (by decide) (by decide) (by decide)]) (fun f => hk 12 f 0 (by decide) (by decide) (by decide) (by decide) (by decide)) (fun f s => hk 17 f s (by decide) (by decide) (by decide) (by decide) (by decide)) (fun f s => hk 19 f s (by decide) (by decide) (by decide) (by decide) (by decide))
theorem iG_read (h : iG N g q w) {x : Int32} (hst : stR K N g g' q x) : iG N g' q w := by
  by_cases ok : okR K N g q (mixF x 2)
  · obtain ⟨r, r0, -, -⟩ := hst.1 ok
    exact iG_same h r0 (fun f => r 12 f 0 (by decide) (by decide) (by decide) (by decide) (by decide) (by decide) (by decide)) (fun f s => r 17 f s (by decide) (by decide) (by decide) (by decide) (by decide) (by decide) (by decide)) (fun f s => r 19 f s (by decide) (by decide) (by decide) (by decide) (by decide) (by decide) (by decide))
  · exact iG_kp h (hst.2 ok)
theorem iG_repair (h : iG N g q w) (hz : zB K N) {x : Int32} (hst : stP K N g g' q x) : iG N g' q w := by
  by_cases ok : okR K N g q x
  · obtain ⟨r, r17, r17s⟩ := hst.1 ok
    obtain ⟨f0, hf0, ef⟩ := fuF_ge ok.1
    have hq6 := h.2.1
    refine iG_of h (by rw [r 0 0 0 (by decide) (by decide) (by decide) (by decide) (by decide) (by decide) (by decide)]) (fun f _ => by rw [r 12 f 0 (by decide) (by decide) (by decide) (by decide) (by decide) (by decide) (by decide)]) (fun f s hf hs => ?_) (fun f s hf hs => by rw [r 19 f s (by decide) (by decide) (by decide) (by decide) (by decide) (by decide) (by decide)]; exact (h.2.2.2 f s hf hs).2)
    by_cases z : f = (fuF g q x).toNatClampNeg
    · by_cases tk : rpV N g (fuF g q x).toNatClampNeg (nI (beF K N g (fuF g q x).toNatClampNeg)) s = 0
      · rw [(r17 f s (Or.inr tk)).1]
        exact (h.2.2.2 f s hf hs).1
      · have e := (r17s s hs tk).1
        have hp := plF_ok (N := N) (n := N) (j := 0) (u := svF N g (fuF g q x).toNatClampNeg (nI (beF K N g (fuF g q x).toNatClampNeg))) (Nat.le_refl N) (by have := beF_pos ok.2; have := hz.1; omega)
        rw [z, e]
        exact (h.2.2.2 _ _ (by omega) hp.1).1
    · rw [(r17 f s (Or.inl z)).1]
      exact (h.2.2.2 f s hf hs).1
  · exact iG_kp h (hst.2 ok)
theorem iG_0 : iG N (g0F N) 0 (fun _ => 0) := ⟨by simp [g0F]; rfl, by omega, fun f _ => ⟨by simp [g0F]; rfl, Nat.zero_le _⟩, fun f s _ _ => by simp [g0F]⟩
theorem sM_0 (hz : zB K N) : sM K N (g0F N) q0F := by
  obtain ⟨h1, h2, h3, h4⟩ := hz
  refine ⟨by simp [g0F, q0F], by simp [g0F, q0F], fun s hs => ⟨?_, by simp [g0F, q0F]⟩, fun f _ => by simp [g0F, q0F], fun f j _ _ => by simp [g0F, q0F], fun f s _ _ => ⟨by simp [rwS, g0F, q0F], by simp [rwS, g0F, q0F]⟩, fun i _ => by simp [g0F, q0F]⟩
  have : s < 7 := by omega
  simp [g0F, q0F, hs, this]
theorem sM_best {qq : qT} (h : sM K N g qq) (e : Nat → Int32) : sM K N (upS g 11 0 0 e) qq := by
  have e1 : ∀ k f s, k ≠ 11 → upS g 11 0 0 e k f s = g k f s := fun k f s z => upS_n (fun y => z y.1)
  unfold sM
  rw [e1 0 0 0 (by decide), e1 1 0 0 (by decide), e1 2 0 0 (by decide), e1 4 0 0 (by decide), e1 5 0 0 (by decide)]
  refine ⟨h.1, h.2.1, h.2.2.1, fun f hf => ?_, fun f j hf hj => ?_, fun f s hf hs => ?_, h.2.2.2.2.2.2⟩
  · rw [e1 12 f 0 (by decide)]
    exact h.2.2.2.1 f hf
  · rw [e1 15 f 0 (by decide), e1 16 f 0 (by decide)]
    exact h.2.2.2.2.1 f j hf hj
  · rw [e1 17 f s (by decide), e1 18 f s (by decide), e1 19 f s (by decide), e1 20 f s (by decide)]
    exact h.2.2.2.2.2.1 f s hf hs
end KEEP
theorem clF_in {x : Int32} {a d : Nat} (had : a ≤ d) (hd : d < 2 ^ 31) : ∃ k, a ≤ k ∧ k ≤ d ∧ clF x (nI a) (nI d) = nI k := by
  by_cases h1 : nI a ≤ x
  · by_cases h2 : x ≤ nI d
    · have h0 : ¬ x < 0 := by
        have := nI_pos' (n := a) (by omega)
        rw [Int32.lt_iff_toInt_lt]
        rw [Int32.le_iff_toInt_le] at h1 this
        omega
      obtain ⟨j, hj, rfl⟩ := nI_of h0
      exact ⟨j, (nI_leI (by omega) hj).mp h1, (nI_leI hj hd).mp h2, clF_mid h1 h2⟩
    · exact ⟨d, had, Nat.le_refl d, clF_hi h2 (nI_le had hd)⟩
  · exact ⟨a, Nat.le_refl a, had, clF_lo h1 (nI_le had hd)⟩
theorem clF_KN (x y : Int32) : ∃ K N, zB K N ∧ clF x (nI 1) (nI 4) = nI K ∧ clF y (nI K) (nI 7) = nI N := by
  obtain ⟨K, h1, h2, h3⟩ := clF_in (x := x) (a := 1) (d := 4) (by omega) (by omega)
  obtain ⟨N, h4, h5, h6⟩ := clF_in (x := y) (a := K) (d := 7) (by omega) (by omega)
  exact ⟨K, N, ⟨h1, h2, h4, h5⟩, h3, h6⟩
section TWO
variable {T : Nat → ClassId} {ad : Nat → Nat → Nat → Nat} {bd : Nat → Nat} {K N b : Nat} {g g' : gT} {q q' : qT} {M0 M M1 : xM}
def dA (ad : Nat → Nat → Nat → Nat) (bd : Nat → Nat) (N : Nat) : Prop := ∀ k f s j, vG N k f s → j < 14 → ad k f s ≠ bd j
theorem mG_kept (h : mG T bd K N q M) (hd : dA ad bd N) (hR : gR T ad K N M g' M1) : mG T bd K N q M1 := ⟨fun k hk => by rw [hR.2 (bd k) (fun k1 f s v => hd k1 f s k v hk)]; exact h.1 k hk, h.2⟩
theorem gG_kept (h : gG T ad K N g M) (hd : dA ad bd N) (hR : mR T bd K N M q' M1) : gG T ad K N g M1 := ⟨fun k f s v => by rw [hR.2 (ad k f s) (fun j hj z => hd k f s j v hj z.symm)]; exact h.1 k f s v, h.2⟩
theorem vG_c {k f s : Nat} (h : vG N k f s) : (k = 0 ∧ f = 0 ∧ s = 0) ∨ vH N k f s := by
  simp only [vG] at h
  simp only [vH, sH]
  omega
theorem gG_of (h : bS b (vH N) ad (fun k f s => cG T ad K N (g k f s) k f s) M0 M1) (h0 : ad 0 0 0 = b) (hb : M1 b = some (cG T ad K N (g 0 0 0) 0 0 0)) : gG T ad K N g M1 := by
  refine ⟨fun k f s v => ?_, fun k f s k' f' s' v v' z => ?_⟩
  · rcases vG_c v with ⟨rfl, rfl, rfl⟩ | v
    · rw [h0]
      exact hb
    · exact (h.1 k f s v).1
  · rcases vG_c v with ⟨rfl, rfl, rfl⟩ | v <;> rcases vG_c v' with ⟨rfl, rfl, rfl⟩ | v'
    · exact ⟨rfl, rfl, rfl⟩
    · exact absurd (z.symm.trans h0) (h.1 k' f' s' v').2.2
    · exact absurd (z.trans h0) (h.1 k f s v).2.2
    · exact h.2.1 _ _ _ _ _ _ v v' z
theorem mG_of (h : bS b (sY 14) (fun k _ _ => bd k) (fun k _ _ => cM T bd K N (q k) k) M0 M1) (h0 : bd 0 = b) (hb : M1 b = some (cM T bd K N (q 0) 0)) : mG T bd K N q M1 := by
  have hv : ∀ k, k < 14 → k = 0 ∨ sY 14 k 0 0 := fun k hk => by
    by_cases hk0 : k = 0
    · exact Or.inl hk0
    · exact Or.inr ⟨by omega, hk, rfl, rfl⟩
  refine ⟨fun k hk => ?_, fun k k' hk hk' z => ?_⟩
  · rcases hv k hk with rfl | v
    · rw [h0]
      exact hb
    · exact (h.1 k 0 0 v).1
  · rcases hv k hk with rfl | v <;> rcases hv k' hk' with rfl | v'
    · rfl
    · exact absurd (z.symm.trans h0) (h.1 k' 0 0 v').2.2
    · exact absurd (z.trans h0) (h.1 k 0 0 v).2.2
    · exact (h.2.1 _ _ _ _ _ _ v v' z).1
/-- behind the reference's constructor the class's memory stands as before, apart from the reference's -/
theorem two_of {d : va_E} (hG : gG T ad K N g M) (hq : M b = none) (h : bS b (sY 14) (fun k _ _ => bd k) (fun k _ _ => cM T bd K N (q k) k) (xU M b d) M1) (h0 : bd 0 = b) : gG T ad K N g M1 ∧ dA ad bd N := by
  refine ⟨⟨fun k f s v => h.keep hq (hG.1 k f s v), hG.2⟩, fun k f s j v hj z => ?_⟩
  have e := hG.1 k f s v
  rw [z] at e
  by_cases hj0 : j = 0
  · rw [hj0, h0, hq] at e
    cases e
  · have y := (h.1 j 0 0 ⟨by omega, hj, rfl, rfl⟩).2
    rw [xU_n y.2, e] at y
    cases y.1
end TWO
