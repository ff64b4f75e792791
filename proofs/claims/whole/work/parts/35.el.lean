/-! the reference's elimination as functions; both ways of decoding are linear in the shares -/
def sbL (u v : Nat) (t : Int32) : Nat → (Nat → Int32) → Nat → Int32
  | 0, F => F
  | n + 1, F => upd (sbL u v t n F) (u * 4 + n) (sbL u v t n F (u * 4 + n) ^^^ prF (sbL u v t n F (v * 4 + n)) t)
def sbR (R : Nat → Int32) (u v : Nat) (t : Int32) : Nat → Int32 := upd R u (R u ^^^ smF (R v) t)
def slL (c : Nat) (iv : Int32) : Nat → (Nat → Int32) → Nat → Int32
  | 0, F => F
  | n + 1, F => upd (slL c iv n F) (c * 4 + n) (prF (slL c iv n F (c * 4 + n)) iv)
abbrev fT : Type := Nat → Int32
def rwF (K c : Nat) : Nat → fT → fT
  | 0, F => F
  | n + 1, F => if n = c then rwF K c n F else sbL n c (rwF K c n F (n * 4 + c)) K (rwF K c n F)
def rwR (K c : Nat) : Nat → fT → fT → fT
  | 0, _, R => R
  | n + 1, F, R => if n = c then rwR K c n F R else sbR (rwR K c n F R) n c (rwF K c n F (n * 4 + c))
/-- the pivot's row, from p on with n rows left -/
def pvS (F : fT) (c : Nat) : Nat → Nat → Nat
  | p, 0 => p
  | p, n + 1 => if F (p * 4 + c) = 0 then pvS F c (p + 1) n else p
def pvF (K : Nat) (F : fT) (c : Nat) : Nat := pvS F c c (K - 1 - c)
def c1F (K c : Nat) (F : fT) : fT := if c < pvF K F c then sbL c (pvF K F c) 1 K F else F
def c1R (K c : Nat) (F R : fT) : fT := if c < pvF K F c then sbR R c (pvF K F c) 1 else R
def ivC (K c : Nat) (F : fT) : Int32 := pwF (c1F K c F (c * 4 + c)) 254
def c2F (K c : Nat) (F : fT) : fT := slL c (ivC K c F) K (c1F K c F)
def c2R (K c : Nat) (F R : fT) : fT := upd (c1R K c F R) c (smF (c1R K c F R c) (ivC K c F))
def coF (K c : Nat) (F : fT) : fT := rwF K c K (c2F K c F)
def coR (K c : Nat) (F R : fT) : fT := rwR K c K (c2F K c F) (c2R K c F R)
def elF (K : Nat) : Nat → fT → fT
  | 0, F => F
  | n + 1, F => coF K n (elF K n F)
def elR (K : Nat) : Nat → fT → fT → fT
  | 0, _, R => R
  | n + 1, F, R => coR K n (elF K n F) (elR K n F R)
def pl4 (a b c d : Nat) : Nat → Nat := fun j => match j with
  | 0 => a
  | 1 => b
  | 2 => c
  | _ => d
def ckN (K : Nat) (pl : Nat → Nat) : Bool := (List.range K).all fun c => (List.range K).all fun i => decide (dcS K (fun j => nI (pl j) + 1) (fun r => pwF (nI (pl r) + 1) c) i = if c = i then 1 else 0)
theorem ck_1 : ∀ a, a < 7 → ckN 1 (pl4 a 0 0 0) = true := by decide +kernel
theorem ck_2 : ∀ a, a < 7 → ∀ b, b < 7 → a < b → ckN 2 (pl4 a b 0 0) = true := by decide +kernel
theorem ck_3 : ∀ a, a < 7 → ∀ b, b < 7 → a < b → ∀ c, c < 7 → b < c → ckN 3 (pl4 a b c 0) = true := by decide +kernel
theorem ck_4b : ((List.range 7).all fun a => (List.range 7).all fun b => (List.range 7).all fun c => (List.range 7).all fun d => !(decide (a < b) && decide (b < c) && decide (c < d)) || ckN 4 (pl4 a b c d)) = true := by decide +kernel
theorem ck_4 : ∀ a, a < 7 → ∀ b, b < 7 → a < b → ∀ c, c < 7 → b < c → ∀ d, d < 7 → c < d → ckN 4 (pl4 a b c d) = true := by
  intro a ha b hb hab c hc hbc d hd hcd
  have h := List.all_eq_true.mp (List.all_eq_true.mp (List.all_eq_true.mp (List.all_eq_true.mp ck_4b a (List.mem_range.mpr ha)) b (List.mem_range.mpr hb)) c (List.mem_range.mpr hc)) d (List.mem_range.mpr hd)
  rw [decide_eq_true hab, decide_eq_true hbc, decide_eq_true hcd] at h
  exact h
