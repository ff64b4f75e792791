/-! the elimination ends at the one solution -/
def UN (K n : Nat) (F : fT) : Prop := ∀ r j, r < K → j < n → F (r * 4 + j) = if r = j then 1 else 0
def KZ (K : Nat) (F : fT) : Prop := ∀ y : fT, (∀ r, r < K → lc y (fun c => F (r * 4 + c)) K = 0) → ∀ j, j < K → y j = 0
theorem one_sc {b : Int32} (hb : isB b) : scF 1 b = b := by
  obtain ⟨k, hk, rfl⟩ := hb
  exact ((by decide +kernel : ∀ k, k < 256 → nI k = scF 1 (nI k)) k hk).symm
theorem zero_sc (b : Int32) : scF 0 b = 0 := (scF_ad b).zero
theorem scF_cb : ∀ i, i < 8 → ∀ j, j < 8 → scF (nI (2 ^ i)) (nI (2 ^ j)) = scF (nI (2 ^ j)) (nI (2 ^ i)) := by decide +kernel
theorem scF_comm {a b : Int32} (ha : isB a) (hb : isB b) : scF a b = scF b a := by
  obtain ⟨n, hn, rfl⟩ := ha
  obtain ⟨k, hk, rfl⟩ := hb
  refine addExtN (F := fun x => scF x (nI k)) (G := fun x => scF (nI k) x) (scF_ad _) (scF_ak _) 8 (fun i hi => ?_) n hn
  exact addExtN (F := fun x => scF (nI (2 ^ i)) x) (G := fun x => scF x (nI (2 ^ i))) (scF_ak _) (scF_ad _) 8 (fun j hj => scF_cb i hi j hj) k hk
theorem lc_sel {z a : fT} {r : Nat} {v : Int32} : ∀ n, (∀ j, j < n → scF (z j) (a j) = if j = r then v else 0) → lc z a n = if r < n then v else 0 := by
  intro n
  induction n with
  | zero => intro _; rw [lc, if_neg (by omega)]
  | succ n ih =>
    intro h
    rw [lc, ih (fun j hj => h j (by omega)), h n (by omega)]
    by_cases e : n = r
    · subst e; rw [if_neg (by omega), if_pos rfl, if_pos (by omega), zero_xo]
    · rw [if_neg e, xo_zero]
      by_cases e2 : r < n
      · rw [if_pos e2, if_pos (by omega)]
      · rw [if_neg e2, if_neg (by omega)]
theorem pvS_ok {F : fT} {c : Nat} : ∀ n p, p ≤ pvS F c p n ∧ pvS F c p n ≤ p + n ∧ (∀ r, p ≤ r → r < pvS F c p n → F (r * 4 + c) = 0) ∧ (pvS F c p n < p + n → ¬ F (pvS F c p n * 4 + c) = 0) := by
  intro n
  induction n with
  | zero => intro p; exact ⟨Nat.le_refl _, Nat.le_refl _, fun r h1 h2 => by rw [pvS] at h2; omega, fun h => by rw [pvS] at h; omega⟩
  | succ n ih =>
    intro p
    rw [pvS]
    by_cases e : F (p * 4 + c) = 0
    · rw [if_pos e]
      obtain ⟨h1, h2, h3, h4⟩ := ih (p + 1)
      refine ⟨by omega, by omega, fun r g1 g2 => ?_, fun h => h4 (by omega)⟩
      by_cases er : r = p
      · subst er; exact e
      · exact h3 r (by omega) g2
    · rw [if_neg e]
      exact ⟨Nat.le_refl _, by omega, fun r g1 g2 => by omega, fun _ => e⟩
section EM
variable {K : Nat} {F : fT}
theorem pv_ok {c : Nat} (hc : c < K) (hB : BF K F) (hU : UN K c F) (hZ : KZ K F) : c ≤ pvF K F c ∧ pvF K F c < K ∧ (∀ r, c ≤ r → r < pvF K F c → F (r * 4 + c) = 0) ∧ ¬ F (pvF K F c * 4 + c) = 0 := by
  obtain ⟨h1, h2, h3, h4⟩ := pvS_ok (F := F) (c := c) (K - 1 - c) c
  refine ⟨h1, by rw [pvF]; omega, h3, fun h0 => ?_⟩
  have hend : pvF K F c = K - 1 := by
    rcases Nat.lt_or_ge (pvF K F c) (c + (K - 1 - c)) with q | q
    · exact absurd h0 (h4 q)
    · have : pvF K F c ≤ c + (K - 1 - c) := h2
      omega
  have hz : ∀ r, c ≤ r → r < K → F (r * 4 + c) = 0 := by
    intro r g1 g2
    by_cases e : r = K - 1
    · rw [e, ← hend]; exact h0
    · exact h3 r g1 (by have : r < pvF K F c := by omega
                        exact this)
  have hy := hZ (fun j => (if j < c then F (j * 4 + c) else 0) ^^^ (if j = c then 1 else 0)) (fun r hr => ?_) c hc
  · rw [if_neg (by omega), if_pos rfl, zero_xo] at hy; exact absurd hy (by decide)
  · rw [lc_y]
    have e2 : lc (fun j => if j = c then 1 else 0) (fun j => F (r * 4 + j)) K = F (r * 4 + c) := by
      rw [lc_sel (r := c) (v := F (r * 4 + c)) K (fun j hj => ?_), if_pos hc]
      by_cases e : j = c
      · rw [if_pos e, if_pos e, one_sc (hB r j hr hj), e]
      · rw [if_neg e, if_neg e, zero_sc]
    rw [e2]
    by_cases er : r < c
    · have e1 : lc (fun j => if j < c then F (j * 4 + c) else 0) (fun j => F (r * 4 + j)) K = F (r * 4 + c) := by
        rw [lc_sel (r := r) (v := F (r * 4 + c)) K (fun j hj => ?_), if_pos hr]
        by_cases e : j < c
        · rw [if_pos e, hU r j hr e]
          by_cases e3 : j = r
          · rw [if_pos e3.symm, if_pos e3, scF_one, e3]
          · rw [if_neg (fun q => e3 q.symm), if_neg e3, scF_zero]
        · rw [if_neg e, if_neg (by omega), zero_sc]
      rw [e1, xo_self]
    · have e1 : lc (fun j => if j < c then F (j * 4 + c) else 0) (fun j => F (r * 4 + j)) K = 0 := by
        rw [lc_sel (r := K) (v := 0) K (fun j hj => ?_), if_neg (by omega)]
        rw [if_neg (show ¬ j = K by omega)]
        by_cases e : j < c
        · rw [if_pos e, hU r j hr e, if_neg (by omega), scF_zero]
        · rw [if_neg e, zero_sc]
      rw [e1, hz r (by omega) hr, xo_self]
theorem isB_1 : isB 1 := ⟨1, by omega, rfl⟩
theorem isB_0 : isB 0 := ⟨0, by omega, rfl⟩
theorem col1 (h4 : K ≤ 4) {c : Nat} (hc : c < K) (hB : BF K F) (hU : UN K c F) (hZ : KZ K F) : BF K (c1F K c F) ∧ UN K c (c1F K c F) ∧ ¬ c1F K c F (c * 4 + c) = 0 ∧ ∀ R y, SA K (c1F K c F) (c1R K c F R) y → SA K F R y := by
  obtain ⟨h1, h2, h3, h5⟩ := pv_ok hc hB hU hZ
  by_cases e : c < pvF K F c
  · have eF : c1F K c F = sbL c (pvF K F c) 1 K F := by rw [c1F, if_pos e]
    have hne : c ≠ pvF K F c := by omega
    refine ⟨by rw [eF]; exact sb_B h4 hne hc h2 hB isB_1, ?_, ?_, fun R y h => ?_⟩
    · intro r j hr hj
      rw [eF, sb_cl hne K h4 r j (by omega)]
      by_cases er : r = c ∧ j < K
      · rw [if_pos er, hU c j hc hj, hU (pvF K F c) j h2 hj, if_neg (by omega), if_neg (by omega), if_neg (by omega), prF_eq isB_0 isB_1, zero_sc, xo_self]
      · rw [if_neg er]; exact hU r j hr hj
    · rw [eF, sb_cl hne K h4 c c (by omega), if_pos ⟨rfl, hc⟩, h3 c (Nat.le_refl c) e, zero_xo, prF_eq (hB _ c h2 hc) isB_1, scF_one]; exact h5
    · rw [eF, c1R, if_pos e] at h
      exact sb_back h4 hne h2 hB isB_1 h
  · have eF : c1F K c F = F := by rw [c1F, if_neg e]
    have ep : pvF K F c = c := by omega
    refine ⟨by rw [eF]; exact hB, by rw [eF]; exact hU, by rw [eF]; rw [ep] at h5; exact h5, fun R y h => ?_⟩
    rw [eF, c1R, if_neg e] at h
    exact h
theorem col_ok (h4 : K ≤ 4) {c : Nat} (hc : c < K) (hB : BF K F) (hU : UN K c F) (hZ : KZ K F) : BF K (coF K c F) ∧ UN K (c + 1) (coF K c F) ∧ ∀ R y, SA K (coF K c F) (coR K c F R) y → SA K F R y := by
  obtain ⟨b1, u1, n1, s1⟩ := col1 h4 hc hB hU hZ
  have hpv : isB (c1F K c F (c * 4 + c)) := b1 c c hc hc
  have hiv : isB (ivC K c F) := pwF_b hpv 254
  have hinv : scF (ivC K c F) (c1F K c F (c * 4 + c)) = 1 := pw254 hpv n1
  have b2 : BF K (c2F K c F) := sl_B h4 b1 hc hiv
  have f2 : ∀ r j, r < K → j < K → c2F K c F (r * 4 + j) = if r = c then scF (c1F K c F (c * 4 + j)) (ivC K c F) else c1F K c F (r * 4 + j) := by
    intro r j hr hj
    rw [c2F, sl_cl K h4 r j (by omega)]
    by_cases e : r = c
    · rw [if_pos ⟨e, hj⟩, if_pos e, prF_eq (b1 c j hc hj) hiv]
    · rw [if_neg (by omega), if_neg e]
  have f2c : ∀ j, j < c → c2F K c F (c * 4 + j) = 0 := fun j hj => by rw [f2 c j hc (by omega), if_pos rfl, u1 c j hc hj, if_neg (by omega), zero_sc]
  have f2cc : c2F K c F (c * 4 + c) = 1 := by rw [f2 c c hc hc, if_pos rfl, scF_comm hpv hiv, hinv]
  refine ⟨rw_B h4 hc b2 K (Nat.le_refl K), ?_, fun R y h => s1 R y (sl_back h4 b1 hc hiv hpv hinv (rw_back h4 hc b2 K (Nat.le_refl K) h))⟩
  intro r j hr hj
  rw [coF, rw_cl h4 hc K (Nat.le_refl K) r j hr (by omega)]
  by_cases e : r = c
  · rw [if_neg (by omega), e]
    by_cases ej : j = c
    · rw [ej, f2cc, if_pos rfl]
    · rw [f2c j (by omega), if_neg (by omega)]
  · rw [if_pos ⟨hr, e⟩]
    by_cases ej : j = c
    · rw [ej, f2cc, prF_eq isB_1 (b2 r c hr hc), one_sc (b2 r c hr hc), xo_self, if_neg e]
    · rw [f2c j (by omega), prF_eq isB_0 (b2 r c hr hc), zero_sc, xo_zero, f2 r j hr (by omega), if_neg e]
      exact u1 r j hr (by omega)
theorem sbR_z {R : fT} {u v : Nat} {t : Int32} (ht : isB t) (h : ∀ r, R r = 0) : ∀ r, sbR R u v t r = 0 := by
  intro r
  rw [sbR]
  by_cases e : r = u
  · subst e; rw [upd_s, h, h, smF_eq ht, zero_sc, xo_self]
  · rw [upd_n e]; exact h r
theorem rwR_z (h4 : K ≤ 4) {c : Nat} (hc : c < K) (hB : BF K F) {R : fT} (h : ∀ r, R r = 0) : ∀ n, n ≤ K → ∀ r, rwR K c n F R r = 0 := by
  intro n
  induction n with
  | zero => intro _ r; exact h r
  | succ n ih =>
    intro hn
    rw [rwR]
    by_cases e : n = c
    · rw [if_pos e]; exact ih (by omega)
    · rw [if_neg e]; exact sbR_z (rw_B h4 hc hB n (by omega) n c (by omega) hc) (ih (by omega))
theorem coR_z (h4 : K ≤ 4) {c : Nat} (hc : c < K) (hB : BF K F) (hU : UN K c F) (hZ : KZ K F) {R : fT} (h : ∀ r, R r = 0) : ∀ r, coR K c F R r = 0 := by
  obtain ⟨b1, u1, n1, s1⟩ := col1 h4 hc hB hU hZ
  have hiv : isB (ivC K c F) := pwF_b (b1 c c hc hc) 254
  have z1 : ∀ r, c1R K c F R r = 0 := by
    rw [c1R]
    by_cases e : c < pvF K F c
    · rw [if_pos e]; exact sbR_z isB_1 h
    · rw [if_neg e]; exact h
  refine rwR_z h4 hc (sl_B h4 b1 hc hiv) (fun r => ?_) K (Nat.le_refl K)
  rw [c2R]
  by_cases e : r = c
  · subst e; rw [upd_s, z1, smF_eq hiv, zero_sc]
  · rw [upd_n e]; exact z1 r
theorem el_ok (h4 : K ≤ 4) (hB : BF K F) (hZ : KZ K F) : ∀ n, n ≤ K → BF K (elF K n F) ∧ UN K n (elF K n F) ∧ KZ K (elF K n F) ∧ ∀ R y, SA K (elF K n F) (elR K n F R) y → SA K F R y := by
  intro n
  induction n with
  | zero => intro _; exact ⟨hB, fun r j _ hj => absurd hj (by omega), hZ, fun R y h => h⟩
  | succ n ih =>
    intro hn
    obtain ⟨a1, a2, a3, a4⟩ := ih (by omega)
    obtain ⟨c1, c2, c3⟩ := col_ok h4 (show n < K by omega) a1 a2 a3
    refine ⟨c1, c2, fun y hy => a3 y (fun r hr => ?_), fun R y h => a4 R y (c3 _ y h)⟩
    have hz := coR_z h4 (show n < K by omega) a1 a2 a3 (R := fun _ => 0) (fun _ => rfl)
    exact c3 (fun _ => 0) y (fun r hr => by rw [hz r]; exact hy r hr) r hr
end EM
/-- the reference decodes as the class does -/
theorem el_dc {K : Nat} {pl : Nat → Nat} {F R : fT} (h1 : 1 ≤ K) (h4 : K ≤ 4) (hp : plOK K pl) (hF : ∀ r c, r < K → c < K → F (r * 4 + c) = pwF (nI (pl r) + 1) c) {i : Nat} (hi : i < K) : elR K K F R i = dcS K (fun j => nI (pl j) + 1) R i := by
  have hB : BF K F := fun r c hr hc => by rw [hF r c hr hc]; exact pwF_b (pt_b (hp.1 r hr)) c
  have row : ∀ (y : fT) (r : Nat), r < K → lc y (fun c => F (r * 4 + c)) K = lc y (fun c => pwF (nI (pl r) + 1) c) K := fun y r hr => lc_congr K (fun c hc => hF r c hr hc)
  have z0 : ∀ (a : fT) (n : Nat), lc (fun _ => 0) a n = 0 := by
    intro a n
    induction n with
    | zero => rfl
    | succ n ih => rw [lc, ih, zero_sc, xo_self]
  have hZ : KZ K F := by
    intro y hy j hj
    rw [← newt_inv (y := y) h1 h4 hp hj, ← newt_inv (y := fun _ => 0) h1 h4 hp hj]
    exact dcS_congr h1 (fun _ _ => rfl) (fun r hr => by rw [z0, ← row y r hr]; exact hy r hr) j hj
  obtain ⟨a1, a2, a3, a4⟩ := el_ok h4 hB hZ K (Nat.le_refl K)
  have hs := a4 R (elR K K F R) (fun r hr => lc_unit K hr (fun c hc => by
    rw [a2 r c hr hc]
    by_cases e : r = c
    · rw [if_pos e, if_pos e.symm]
    · rw [if_neg e, if_neg (fun q => e q.symm)]))
  rw [← newt_inv (y := elR K K F R) h1 h4 hp hi]
  exact dcS_congr h1 (fun _ _ => rfl) (fun r hr => by rw [← row _ r hr]; exact hs r hr) i hi
