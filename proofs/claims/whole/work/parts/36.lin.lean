/-! both ways of decoding give one answer -/
def lc (y a : fT) : Nat → Int32
  | 0 => 0
  | n + 1 => lc y a n ^^^ scF (y n) (a n)
theorem lc_congr {y a b : fT} : ∀ n, (∀ c, c < n → a c = b c) → lc y a n = lc y b n := by
  intro n
  induction n with
  | zero => intro _; rfl
  | succ n ih => intro h; rw [lc, lc, ih (fun c hc => h c (by omega)), h n (by omega)]
theorem lc_xor {y a b : fT} : ∀ n, lc y (fun c => a c ^^^ b c) n = lc y a n ^^^ lc y b n := by
  intro n
  induction n with
  | zero => exact (xo_self 0).symm
  | succ n ih => rw [lc, lc, lc, ih, show scF (y n) (a n ^^^ b n) = scF (y n) (a n) ^^^ scF (y n) (b n) from scF_ak (y n) _ _, xo_4]
theorem scF_as {w a b : Int32} (ha : isB a) (hb : isB b) : scF (scF w a) b = scF w (scF a b) := by
  obtain ⟨n, hn, rfl⟩ := ha
  obtain ⟨k, hk, rfl⟩ := hb
  exact scF_assoc w hn hk
theorem lc_sc {y a : fT} {t : Int32} (ht : isB t) : ∀ n, (∀ c, c < n → isB (a c)) → scF (lc y a n) t = lc y (fun c => scF (a c) t) n := by
  intro n
  induction n with
  | zero => intro _; exact (scF_ad t).zero
  | succ n ih => intro h; rw [lc, lc, show scF (lc y a n ^^^ scF (y n) (a n)) t = scF (lc y a n) t ^^^ scF (scF (y n) (a n)) t from scF_ad t _ _, ih (fun c hc => h c (by omega)), scF_as (h n (by omega)) ht]
theorem lc_nil {y a : fT} : ∀ n, (∀ c, c < n → a c = 0) → lc y a n = 0 := by
  intro n
  induction n with
  | zero => intro _; rfl
  | succ n ih => intro h; rw [lc, ih (fun c hc => h c (by omega)), h n (by omega), scF_zero, xo_self]
theorem lc_unit {y a : fT} {r : Nat} : ∀ n, r < n → (∀ c, c < n → a c = if c = r then 1 else 0) → lc y a n = y r := by
  intro n
  induction n with
  | zero => intro h; omega
  | succ n ih =>
    intro hr h
    rw [lc, h n (by omega)]
    by_cases e : n = r
    · subst e
      rw [if_pos rfl, lc_nil n (fun c hc => by rw [h c (by omega), if_neg (by omega)]), scF_one, zero_xo]
    · rw [if_neg e, ih (by omega) (fun c hc => h c (by omega)), scF_zero, xo_zero]
theorem lc_y {y z a : fT} : ∀ n, lc (fun c => y c ^^^ z c) a n = lc y a n ^^^ lc z a n := by
  intro n
  induction n with
  | zero => exact (xo_self 0).symm
  | succ n ih => rw [lc, lc, lc, ih, show scF (y n ^^^ z n) (a n) = scF (y n) (a n) ^^^ scF (z n) (a n) from scF_ad (a n) _ _, xo_4]
/-- Newton's way is linear -/
def LR (K : Nat) (y R : fT) (W : Nat → fT) : Prop := ∀ r, r < K → R r = lc y (fun c => W c r) K ∧ ∀ c, c < K → isB (W c r)
theorem isB_ivS {x : Int32} (hx : isB x) : ∀ n, isB (ivS x n) := by
  intro n
  induction n with
  | zero => exact hx
  | succ n ih => exact ih.sc _
theorem isB_iv {x : Int32} (hx : isB x) : isB (ivF x) := by
  have : ∀ n, isB (ivP x n) := by
    intro n
    induction n with
    | zero => exact ⟨1, by omega, rfl⟩
    | succ n ih => exact ih.sc _
  exact this 7
theorem LR_set {K : Nat} {y R : fT} {W : Nat → fT} {j : Nat} {v : Int32} {V : fT} (h : LR K y R W) (hv : v = lc y V K) (hb : ∀ c, c < K → isB (V c)) : LR K y (upd R j v) (fun c => upd (W c) j (V c)) := by
  intro r hr
  by_cases e : r = j
  · subst e
    refine ⟨?_, fun c hc => ?_⟩
    · rw [upd_s, hv]; exact lc_congr K (fun c _ => by show V c = upd (W c) r (V c) r; rw [upd_s])
    · show isB (upd (W c) r (V c) r); rw [upd_s]; exact hb c hc
  · refine ⟨?_, fun c hc => ?_⟩
    · rw [upd_n e, (h r hr).1]; exact lc_congr K (fun c _ => by show W c r = upd (W c) j (V c) r; rw [upd_n e])
    · show isB (upd (W c) j (V c) r); rw [upd_n e]; exact (h r hr).2 c hc
theorem LR_stD {K : Nat} {y R pts : fT} {W : Nat → fT} {lv j : Nat} (hp : ∀ i, i < K → isB (pts i)) (h : LR K y R W) (hj : j < K) (hj1 : 1 ≤ j) : LR K y (stD pts lv j R) (fun c => stD pts lv j (W c)) := by
  have ht : isB (ivF (pts j ^^^ pts (j - lv))) := isB_iv ((hp j hj).xor (hp (j - lv) (by omega)))
  refine LR_set h ?_ (fun c hc => (((h j hj).2 c hc).xor ((h (j - 1) (by omega)).2 c hc)).sc _)
  rw [(h j hj).1, (h (j - 1) (by omega)).1, ← lc_xor, lc_sc ht K (fun c hc => ((h j hj).2 c hc).xor ((h (j - 1) (by omega)).2 c hc))]
theorem LR_inD {K : Nat} {y pts : fT} {lv : Nat} (hp : ∀ i, i < K → isB (pts i)) (hl : 1 ≤ lv) : ∀ (u : Nat) (R : fT) (W : Nat → fT), lv + u ≤ K → LR K y R W → LR K y (inD pts lv u R) (fun c => inD pts lv u (W c)) := by
  intro u
  induction u with
  | zero => intro R W _ h; exact h
  | succ u ih => intro R W hu h; exact ih _ _ (by omega) (LR_stD hp h (by omega) (by omega))
theorem LR_ouD {K : Nat} {y pts : fT} (hp : ∀ i, i < K → isB (pts i)) : ∀ (t lv : Nat) (R : fT) (W : Nat → fT), 1 ≤ lv → lv + t ≤ K → LR K y R W → LR K y (ouD K pts lv t R) (fun c => ouD K pts lv t (W c)) := by
  intro t
  induction t with
  | zero => intro lv R W _ _ h; exact h
  | succ t ih => intro lv R W h1 h2 h; exact ih (lv + 1) _ _ (by omega) (by omega) (LR_inD hp h1 (K - lv) R W (by omega) h)
theorem LR_stC {K : Nat} {y R pts : fT} {W : Nat → fT} {b j : Nat} (hp : ∀ i, i < K → isB (pts i)) (h : LR K y R W) (hb : b < K) (hj : j + 1 < K) : LR K y (stC pts b j R) (fun c => stC pts b j (W c)) := by
  refine LR_set h ?_ (fun c hc => ((h j (by omega)).2 c hc).xor (((h (j + 1) hj).2 c hc).sc _))
  rw [(h j (by omega)).1, (h (j + 1) hj).1, lc_sc (hp b hb) K (fun c hc => (h (j + 1) hj).2 c hc), ← lc_xor]
theorem LR_inC {K : Nat} {y pts : fT} {b : Nat} (hp : ∀ i, i < K → isB (pts i)) (hb : b < K) : ∀ (u j : Nat) (R : fT) (W : Nat → fT), j + u + 1 ≤ K → LR K y R W → LR K y (inC pts b j u R) (fun c => inC pts b j u (W c)) := by
  intro u
  induction u with
  | zero => intro j R W _ h; exact h
  | succ u ih => intro j R W hu h; exact ih (j + 1) _ _ (by omega) (LR_stC hp h hb (by omega))
theorem LR_ouC {K : Nat} {y pts : fT} (hp : ∀ i, i < K → isB (pts i)) : ∀ (t : Nat) (R : fT) (W : Nat → fT), t < K → LR K y R W → LR K y (ouC K pts t R) (fun c => ouC K pts t (W c)) := by
  intro t
  induction t with
  | zero => intro R W _ h; exact h
  | succ t ih => intro R W ht h; exact ih _ _ (by omega) (LR_inC hp (by omega) (K - 1 - t) t R W (by omega) h)
theorem LR_dcS {K : Nat} {y pts R : fT} {W : Nat → fT} (hK : 1 ≤ K) (hp : ∀ i, i < K → isB (pts i)) (h : LR K y R W) : LR K y (dcS K pts R) (fun c => dcS K pts (W c)) := LR_ouC hp (K - 1) _ _ (by omega) (LR_ouD hp (K - 1) 1 R W (Nat.le_refl 1) (by omega) h)
def plOK (K : Nat) (pl : Nat → Nat) : Prop := (∀ j, j < K → pl j < 7) ∧ ∀ i j, i < j → j < K → pl i < pl j
theorem newt {K : Nat} {pl : Nat → Nat} (h1 : 1 ≤ K) (h4 : K ≤ 4) (hp : plOK K pl) : ∀ c, c < K → ∀ i, i < K → dcS K (fun j => nI (pl j) + 1) (fun r => pwF (nI (pl r) + 1) c) i = if c = i then 1 else 0 := by
  intro c hc i hi
  have key : ∀ (p : Nat → Nat), (∀ j, j < K → p j = pl j) → ckN K p = true → dcS K (fun j => nI (pl j) + 1) (fun r => pwF (nI (pl r) + 1) c) i = if c = i then 1 else 0 := by
    intro p e hck
    have h2 := List.all_eq_true.mp (List.all_eq_true.mp hck c (List.mem_range.mpr hc)) i (List.mem_range.mpr hi)
    have h3 := of_decide_eq_true h2
    rw [← h3]
    exact dcS_congr h1 (fun j hj => by rw [e j hj]) (fun j hj => by rw [e j hj]) i hi
  rcases (show K = 1 ∨ K = 2 ∨ K = 3 ∨ K = 4 by omega) with rfl | rfl | rfl | rfl
  · exact key (pl4 (pl 0) 0 0 0) (fun j hj => by rw [show j = 0 by omega]; rfl) (ck_1 _ (hp.1 0 (by omega)))
  · exact key (pl4 (pl 0) (pl 1) 0 0) (fun j hj => by rcases (show j = 0 ∨ j = 1 by omega) with rfl | rfl <;> rfl) (ck_2 _ (hp.1 0 (by omega)) _ (hp.1 1 (by omega)) (hp.2 0 1 (by omega) (by omega)))
  · exact key (pl4 (pl 0) (pl 1) (pl 2) 0) (fun j hj => by rcases (show j = 0 ∨ j = 1 ∨ j = 2 by omega) with rfl | rfl | rfl <;> rfl) (ck_3 _ (hp.1 0 (by omega)) _ (hp.1 1 (by omega)) (hp.2 0 1 (by omega) (by omega)) _ (hp.1 2 (by omega)) (hp.2 1 2 (by omega) (by omega)))
  · exact key (pl4 (pl 0) (pl 1) (pl 2) (pl 3)) (fun j hj => by rcases (show j = 0 ∨ j = 1 ∨ j = 2 ∨ j = 3 by omega) with rfl | rfl | rfl | rfl <;> rfl) (ck_4 _ (hp.1 0 (by omega)) _ (hp.1 1 (by omega)) (hp.2 0 1 (by omega) (by omega)) _ (hp.1 2 (by omega)) (hp.2 1 2 (by omega) (by omega)) _ (hp.1 3 (by omega)) (hp.2 2 3 (by omega) (by omega)))
/-- decoding what was encoded gives it back -/
theorem newt_inv {K : Nat} {pl : Nat → Nat} {y : fT} (h1 : 1 ≤ K) (h4 : K ≤ 4) (hp : plOK K pl) {i : Nat} (hi : i < K) : dcS K (fun j => nI (pl j) + 1) (fun r => lc y (fun c => pwF (nI (pl r) + 1) c) K) i = y i := by
  have hb : ∀ j, j < K → isB (nI (pl j) + 1) := fun j hj => pt_b (hp.1 j hj)
  have hl : LR K y (fun r => lc y (fun c => pwF (nI (pl r) + 1) c) K) (fun c r => pwF (nI (pl r) + 1) c) := fun r hr => ⟨rfl, fun c _ => pwF_b (hb r hr) c⟩
  rw [((LR_dcS h1 hb hl) i hi).1]
  exact lc_unit K hi (fun c hc => newt h1 h4 hp c hc i hi)
/-! the elimination -/
theorem sb_cl {u v : Nat} {t : Int32} {F : fT} (huv : u ≠ v) : ∀ n, n ≤ 4 → ∀ r c, c < 4 → sbL u v t n F (r * 4 + c) = if r = u ∧ c < n then F (u * 4 + c) ^^^ prF (F (v * 4 + c)) t else F (r * 4 + c) := by
  intro n
  induction n with
  | zero => intro _ r c _; rw [sbL, if_neg (by omega)]
  | succ n ih =>
    intro hn r c hc
    rw [sbL]
    by_cases e : r = u ∧ c = n
    · obtain ⟨rfl, rfl⟩ := e
      rw [upd_s, ih (by omega) r c hc, ih (by omega) v c hc, if_neg (by omega), if_neg (by omega), if_pos (by omega)]
    · rw [upd_n (by omega), ih (by omega) r c hc]
      by_cases e2 : r = u ∧ c < n
      · rw [if_pos e2, if_pos (by omega)]
      · rw [if_neg e2, if_neg (by omega)]
theorem sl_cl {c0 : Nat} {iv : Int32} {F : fT} : ∀ n, n ≤ 4 → ∀ r c, c < 4 → slL c0 iv n F (r * 4 + c) = if r = c0 ∧ c < n then prF (F (c0 * 4 + c)) iv else F (r * 4 + c) := by
  intro n
  induction n with
  | zero => intro _ r c _; rw [slL, if_neg (by omega)]
  | succ n ih =>
    intro hn r c hc
    rw [slL]
    by_cases e : r = c0 ∧ c = n
    · obtain ⟨rfl, rfl⟩ := e
      rw [upd_s, ih (by omega) r c hc, if_neg (by omega), if_pos (by omega)]
    · rw [upd_n (by omega), ih (by omega) r c hc]
      by_cases e2 : r = c0 ∧ c < n
      · rw [if_pos e2, if_pos (by omega)]
      · rw [if_neg e2, if_neg (by omega)]
def BF (K : Nat) (F : fT) : Prop := ∀ r c, r < K → c < K → isB (F (r * 4 + c))
def SA (K : Nat) (F R y : fT) : Prop := ∀ r, r < K → lc y (fun c => F (r * 4 + c)) K = R r
section EL
variable {K : Nat} {F R y : fT}
theorem sb_back (h4 : K ≤ 4) {u v : Nat} {t : Int32} (huv : u ≠ v) (hv : v < K) (hB : BF K F) (ht : isB t) (h : SA K (sbL u v t K F) (sbR R u v t) y) : SA K F R y := by
  intro r hr
  have hvr : lc y (fun c => F (v * 4 + c)) K = R v := by
    have := h v hv
    rw [sbR, upd_n (Ne.symm huv)] at this
    rw [← this]
    exact lc_congr K (fun c hc => by rw [sb_cl huv K h4 v c (by omega), if_neg (by omega)])
  by_cases e : r = u
  · subst e
    have h1 := h r hr
    rw [sbR, upd_s, smF_eq ht] at h1
    have h2 : lc y (fun c => sbL r v t K F (r * 4 + c)) K = lc y (fun c => F (r * 4 + c)) K ^^^ scF (R v) t := by
      rw [← hvr, lc_sc ht K (fun c hc => hB v c hv hc), ← lc_xor]
      exact lc_congr K (fun c hc => by rw [sb_cl huv K h4 r c (by omega), if_pos ⟨rfl, hc⟩, prF_eq (hB v c hv hc) ht])
    rw [h2] at h1
    have h3 := congrArg (fun z => z ^^^ scF (R v) t) h1
    simp only [xo_assoc, xo_self, xo_zero] at h3
    exact h3
  · have h1 := h r hr
    rw [sbR, upd_n e] at h1
    rw [← h1]
    exact lc_congr K (fun c hc => by rw [sb_cl huv K h4 r c (by omega), if_neg (by omega)])
theorem sb_B (h4 : K ≤ 4) {u v : Nat} {t : Int32} (huv : u ≠ v) (hu : u < K) (hv : v < K) (hB : BF K F) (ht : isB t) : BF K (sbL u v t K F) := by
  intro r c hr hc
  rw [sb_cl huv K h4 r c (by omega)]
  by_cases e : r = u ∧ c < K
  · rw [if_pos e, prF_eq (hB v c hv hc) ht]; exact (hB u c hu hc).xor ((hB v c hv hc).sc t)
  · rw [if_neg e]; exact hB r c hr hc
theorem sl_back (h4 : K ≤ 4) {c0 : Nat} {iv pv : Int32} (hB : BF K F) (hc0 : c0 < K) (hi : isB iv) (hp : isB pv) (h1 : scF iv pv = 1) (h : SA K (slL c0 iv K F) (upd R c0 (smF (R c0) iv)) y) : SA K F R y := by
  intro r hr
  by_cases e : r = c0
  · subst e
    have h2 := h r hr
    rw [upd_s, smF_eq hi] at h2
    have h3 : lc y (fun c => slL r iv K F (r * 4 + c)) K = scF (lc y (fun c => F (r * 4 + c)) K) iv := by
      rw [lc_sc hi K (fun c hc => hB r c hr hc)]
      exact lc_congr K (fun c hc => by rw [sl_cl K h4 r c (by omega), if_pos ⟨rfl, hc⟩, prF_eq (hB r c hr hc) hi])
    rw [h3] at h2
    have h5 := congrArg (fun z => scF z pv) h2
    simp only [scF_as hi hp, h1, scF_one] at h5
    exact h5
  · have h2 := h r hr
    rw [upd_n e] at h2
    rw [← h2]
    exact lc_congr K (fun c hc => by rw [sl_cl K h4 r c (by omega), if_neg (by omega)])
theorem sl_B (h4 : K ≤ 4) {c0 : Nat} {iv : Int32} (hB : BF K F) (hc0 : c0 < K) (hi : isB iv) : BF K (slL c0 iv K F) := by
  intro r c hr hc
  rw [sl_cl K h4 r c (by omega)]
  by_cases e : r = c0 ∧ c < K
  · rw [if_pos e, prF_eq (hB c0 c hc0 hc) hi]; exact (hB c0 c hc0 hc).sc iv
  · rw [if_neg e]; exact hB r c hr hc
theorem rw_B (h4 : K ≤ 4) {c0 : Nat} (hc0 : c0 < K) (hB : BF K F) : ∀ n, n ≤ K → BF K (rwF K c0 n F) := by
  intro n
  induction n with
  | zero => intro _; exact hB
  | succ n ih =>
    intro hn
    rw [rwF]
    by_cases e : n = c0
    · rw [if_pos e]; exact ih (by omega)
    · rw [if_neg e]; exact sb_B h4 e (by omega) hc0 (ih (by omega)) (ih (by omega) n c0 (by omega) hc0)
theorem rw_back (h4 : K ≤ 4) {c0 : Nat} (hc0 : c0 < K) (hB : BF K F) : ∀ n, n ≤ K → SA K (rwF K c0 n F) (rwR K c0 n F R) y → SA K F R y := by
  intro n
  induction n with
  | zero => intro _ h; exact h
  | succ n ih =>
    intro hn h
    rw [rwF, rwR] at h
    by_cases e : n = c0
    · rw [if_pos e, if_pos e] at h; exact ih (by omega) h
    · rw [if_neg e, if_neg e] at h
      exact ih (by omega) (sb_back h4 e hc0 (rw_B h4 hc0 hB n (by omega)) (rw_B h4 hc0 hB n (by omega) n c0 (by omega) hc0) h)
theorem rw_cl (h4 : K ≤ 4) {c0 : Nat} (hc0 : c0 < K) : ∀ n, n ≤ K → ∀ r c, r < K → c < K → rwF K c0 n F (r * 4 + c) = if r < n ∧ r ≠ c0 then F (r * 4 + c) ^^^ prF (F (c0 * 4 + c)) (F (r * 4 + c0)) else F (r * 4 + c) := by
  intro n
  induction n with
  | zero => intro _ r c _ _; rw [rwF, if_neg (by omega)]
  | succ n ih =>
    intro hn r c hr hc
    rw [rwF]
    by_cases e : n = c0
    · rw [if_pos e, ih (by omega) r c hr hc]
      by_cases e2 : r < n ∧ r ≠ c0
      · rw [if_pos e2, if_pos (by omega)]
      · rw [if_neg e2, if_neg (by omega)]
    · have a1 : rwF K c0 n F (n * 4 + c) = F (n * 4 + c) := by rw [ih (by omega) n c (by omega) hc, if_neg (by omega)]
      have a2 : rwF K c0 n F (c0 * 4 + c) = F (c0 * 4 + c) := by rw [ih (by omega) c0 c hc0 hc, if_neg (by omega)]
      have a3 : rwF K c0 n F (n * 4 + c0) = F (n * 4 + c0) := by rw [ih (by omega) n c0 (by omega) hc0, if_neg (by omega)]
      rw [if_neg e, sb_cl e K h4 r c (by omega), a1, a2, a3, ih (by omega) r c hr hc]
      by_cases e2 : r = n
      · subst e2; rw [if_pos ⟨rfl, hc⟩, if_pos (by omega)]
      · rw [if_neg (by omega)]
        by_cases e3 : r < n ∧ r ≠ c0
        · rw [if_pos e3, if_pos (by omega)]
        · rw [if_neg e3, if_neg (by omega)]
end EL
theorem pw_add {x : Int32} (hx : isB x) (a : Nat) : ∀ b, pwF x (a + b) = scF (pwF x a) (pwF x b) := by
  intro b
  induction b with
  | zero => rw [Nat.add_zero, show pwF x 0 = 1 from rfl, scF_one]
  | succ b ih => rw [← Nat.add_assoc, pwF_s hx, ih, pwF_s hx, scF_as (pwF_b hx b) hx]
theorem ivS_pw {x : Int32} (hx : isB x) : ∀ n, ivS x n = pwF x (2 ^ n) := by
  intro n
  induction n with
  | zero =>
    show x = pwF x (0 + 1)
    rw [pwF_s hx 0]
    obtain ⟨k, hk, rfl⟩ := hx
    exact (by decide +kernel : ∀ k, k < 256 → nI k = scF 1 (nI k)) k hk
  | succ n ih => rw [ivS, ih, ← pw_add hx, show 2 ^ n + 2 ^ n = 2 ^ (n + 1) by rw [Nat.pow_succ]; omega]
theorem ivP_pw {x : Int32} (hx : isB x) : ∀ n, ivP x n = pwF x (2 ^ (n + 1) - 2) := by
  intro n
  induction n with
  | zero => rfl
  | succ n ih =>
    have hp : 2 ^ (n + 1) ≥ 2 := by have := Nat.pow_le_pow_right (show 0 < 2 by omega) (show 1 ≤ n + 1 by omega); simpa using this
    rw [ivP, ih, ivS_pw hx, ← pw_add hx, show 2 ^ (n + 1) - 2 + 2 ^ (n + 1) = 2 ^ (n + 1 + 1) - 2 by rw [Nat.pow_succ 2 (n + 1)]; omega]
theorem iv_ok : ∀ k, k < 256 → k ≠ 0 → scF (ivF (nI k)) (nI k) = 1 := by decide +kernel
theorem pw254 {x : Int32} (hx : isB x) (h0 : ¬ x = 0) : scF (pwF x 254) x = 1 := by
  have e : ivF x = pwF x 254 := ivP_pw hx 7
  rw [← e]
  obtain ⟨k, hk, rfl⟩ := hx
  exact iv_ok k hk (fun q => h0 (by rw [q]; rfl))
