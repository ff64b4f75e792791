/-! bytes as a field of 256, in words of four: rows on bits (pasted from the laws), then additive functions -/
def bt (x : Int32) (i : Nat) : Bool := x.toBitVec.getLsbD i
theorem b_ext {x y : Int32} (h : ∀ i, i < 32 → bt x i = bt y i) : x = y := Int32.toBitVec_inj.mp (BitVec.eq_of_getLsbD_eq (fun i hi => h i hi))
theorem b_or (x y : Int32) (i : Nat) : bt (x ||| y) i = (bt x i || bt y i) := by unfold bt; rw [Int32.toBitVec_or, BitVec.getLsbD_or]
theorem b_and (x y : Int32) (i : Nat) : bt (x &&& y) i = (bt x i && bt y i) := by unfold bt; rw [Int32.toBitVec_and, BitVec.getLsbD_and]
theorem b_xor (x y : Int32) (i : Nat) : bt (x ^^^ y) i = (bt x i ^^ bt y i) := by unfold bt; rw [Int32.toBitVec_xor, BitVec.getLsbD_xor]
theorem b_big {x : Int32} {i : Nat} (h : 32 ≤ i) : bt x i = false := BitVec.getLsbD_of_ge _ _ h
theorem b_255 (i : Nat) : bt 255 i = decide (i < 8) := by
  rcases Nat.lt_or_ge i 32 with h | h
  · exact (by decide +kernel : ∀ i, i < 32 → bt 255 i = decide (i < 8)) i h
  · rw [b_big h, decide_eq_false (by omega)]
theorem b_65535 (i : Nat) : bt 65535 i = decide (i < 16) := by
  rcases Nat.lt_or_ge i 32 with h | h
  · exact (by decide +kernel : ∀ i, i < 32 → bt 65535 i = decide (i < 16)) i h
  · rw [b_big h, decide_eq_false (by omega)]
theorem b_m1 : ∀ i, i < 32 → bt (-1) i = true := by decide +kernel
theorem b_0 (i : Nat) : bt 0 i = false := BitVec.getLsbD_zero
theorem s_l : ∀ n, n < 32 → ((nI n &&& 31).toBitVec.smod 32).toNat = n := by decide +kernel
theorem s_u : ∀ n, n < 32 → (((nI n).toUInt32 &&& Int32.toUInt32 31).toBitVec % 32).toNat = n := by decide +kernel
theorem b_shl (n : Nat) (hn : n < 32) (x : Int32) {i : Nat} (hi : i < 32) : bt (x <<< (nI n &&& 31)) i = (decide (n ≤ i) && bt x (i - n)) := by
  unfold bt
  rw [Int32.toBitVec_shiftLeft]
  show (x.toBitVec <<< ((nI n &&& 31).toBitVec.smod 32).toNat).getLsbD i = _
  rw [s_l n hn, BitVec.getLsbD_shiftLeft]
  rcases Nat.lt_or_ge i n with h | h
  · simp [h, Nat.not_le.mpr h]
  · simp [hi, h, Nat.not_lt.mpr h]
theorem b_ushr (n : Nat) (hn : n < 32) (x : Int32) (i : Nat) : bt ((x.toUInt32 >>> ((nI n).toUInt32 &&& Int32.toUInt32 31)).toInt32) i = bt x (n + i) := by
  show (x.toUInt32 >>> ((nI n).toUInt32 &&& Int32.toUInt32 31)).toBitVec.getLsbD i = x.toUInt32.toBitVec.getLsbD (n + i)
  rw [UInt32.toBitVec_shiftRight]
  show (x.toUInt32.toBitVec >>> (((nI n).toUInt32 &&& Int32.toUInt32 31).toBitVec % 32).toNat).getLsbD i = _
  rw [s_u n hn, BitVec.getLsbD_ushiftRight]
theorem b_sshr (n : Nat) (hn : n < 32) (x : Int32) {i : Nat} (hi : i < 32) : bt (x >>> (nI n &&& 31)) i = if n + i < 32 then bt x (n + i) else bt x 31 := by
  unfold bt
  rw [Int32.toBitVec_shiftRight]
  show (x.toBitVec.sshiftRight ((nI n &&& 31).toBitVec.smod 32).toNat).getLsbD i = _
  rw [s_l n hn, BitVec.getLsbD_sshiftRight, BitVec.msb_eq_getLsbD_last]
  simp [hi]
theorem b_shl8 (x : Int32) {i : Nat} (hi : i < 32) : bt (x <<< ((8 : Int32) &&& 31)) i = (decide (8 ≤ i) && bt x (i - 8)) := b_shl 8 (by omega) x hi
theorem b_shl16 (x : Int32) {i : Nat} (hi : i < 32) : bt (x <<< ((16 : Int32) &&& 31)) i = (decide (16 ≤ i) && bt x (i - 16)) := b_shl 16 (by omega) x hi
theorem b_shl24 (x : Int32) {i : Nat} (hi : i < 32) : bt (x <<< ((24 : Int32) &&& 31)) i = (decide (24 ≤ i) && bt x (i - 24)) := b_shl 24 (by omega) x hi
theorem b_sshr8 (x : Int32) {i : Nat} (hi : i < 32) : bt (x >>> ((8 : Int32) &&& 31)) i = if 8 + i < 32 then bt x (8 + i) else bt x 31 := b_sshr 8 (by omega) x hi
/-! ===== nI under and, xor, >>>, one bit, 65535 ===== -/
theorem nx_and (a b : Nat) : nI a &&& nI b = nI (a &&& b) := by
  apply Int32.toBitVec_inj.1
  show BitVec.ofNat 32 a &&& BitVec.ofNat 32 b = BitVec.ofNat 32 (a &&& b)
  apply BitVec.eq_of_getLsbD_eq
  intro i hi
  simp [hi]
theorem nx_xor (a b : Nat) : nI a ^^^ nI b = nI (a ^^^ b) := by
  apply Int32.toBitVec_inj.1
  show BitVec.ofNat 32 a ^^^ BitVec.ofNat 32 b = BitVec.ofNat 32 (a ^^^ b)
  apply BitVec.eq_of_getLsbD_eq
  intro i hi
  simp [hi]
theorem xo_self (x : Int32) : x ^^^ x = 0 := by apply b_ext; intro i _; rw [b_xor, b_0]; simp
theorem xo_zero (x : Int32) : x ^^^ 0 = x := by apply b_ext; intro i _; rw [b_xor, b_0]; simp
theorem zero_xo (x : Int32) : 0 ^^^ x = x := by apply b_ext; intro i _; rw [b_xor, b_0]; simp
theorem xo_comm (x y : Int32) : x ^^^ y = y ^^^ x := by apply b_ext; intro i _; rw [b_xor, b_xor, Bool.xor_comm]
theorem xo_assoc (x y z : Int32) : x ^^^ y ^^^ z = x ^^^ (y ^^^ z) := by apply b_ext; intro i _; rw [b_xor, b_xor, b_xor, b_xor, Bool.xor_assoc]
theorem xo_4 (a b x y : Int32) : (a ^^^ b) ^^^ (x ^^^ y) = (a ^^^ x) ^^^ (b ^^^ y) := by
  apply b_ext; intro i _
  simp only [b_xor]
  cases bt a i <;> cases bt b i <;> cases bt x i <;> cases bt y i <;> rfl
/-- additive -/
def Ad (F : Int32 → Int32) : Prop := ∀ x y, F (x ^^^ y) = F x ^^^ F y
theorem Ad.zero {F : Int32 → Int32} (h : Ad F) : F 0 = 0 := by
  have e := h 0 0
  rw [xo_self] at e
  have e2 : F 0 ^^^ F 0 = (F 0 ^^^ F 0) ^^^ F 0 := by rw [← e, ← e]
  rw [xo_self, zero_xo] at e2
  exact e2.symm
theorem Ad.comp {F G : Int32 → Int32} (hF : Ad F) (hG : Ad G) : Ad (fun x => F (G x)) := fun x y => by show F (G (x ^^^ y)) = _; rw [hG, hF]
theorem Ad.xor {F G : Int32 → Int32} (hF : Ad F) (hG : Ad G) : Ad (fun x => F x ^^^ G x) := fun x y => by show F (x ^^^ y) ^^^ G (x ^^^ y) = _; rw [hF, hG, xo_4]
theorem Ad.id : Ad (fun x => x) := fun _ _ => rfl
theorem Ad.nil : Ad (fun _ => 0) := fun _ _ => (xo_self 0).symm
theorem Ad.and (m : Int32) : Ad (fun x => x &&& m) := fun x y => by
  apply b_ext; intro i _
  simp only [b_xor, b_and]
  cases bt x i <;> cases bt y i <;> cases bt m i <;> rfl
theorem Ad.shl {n : Nat} (hn : n < 32) : Ad (fun x => x <<< (nI n &&& 31)) := fun x y => by
  apply b_ext; intro i hi
  show bt ((x ^^^ y) <<< (nI n &&& 31)) i = bt ((x <<< (nI n &&& 31)) ^^^ (y <<< (nI n &&& 31))) i
  rw [b_xor, b_shl n hn _ hi, b_shl n hn _ hi, b_shl n hn _ hi, b_xor]
  cases decide (n ≤ i) <;> simp
theorem Ad.ush {n : Nat} (hn : n < 32) : Ad (fun x => ushF x (nI n)) := fun x y => by
  apply b_ext; intro i hi
  show bt (ushF (x ^^^ y) (nI n)) i = bt (ushF x (nI n) ^^^ ushF y (nI n)) i
  rw [b_xor]
  unfold ushF
  rw [b_ushr n hn, b_ushr n hn, b_ushr n hn, b_xor]
theorem two_xor {k m : Nat} (h : m < 2 ^ k) : 2 ^ k + m = 2 ^ k ^^^ m := by
  apply Nat.eq_of_testBit_eq
  intro j
  have e := Nat.testBit_two_pow_mul_add 1 h j
  rw [Nat.mul_one] at e
  rw [e, Nat.testBit_xor]
  by_cases hj : j < k
  · rw [if_pos hj, Nat.testBit_two_pow_of_ne (by omega)]; simp
  · rw [if_neg hj, Nat.testBit_lt_two_pow (Nat.lt_of_lt_of_le h (Nat.pow_le_pow_right (by omega) (by omega)))]
    by_cases hjk : j = k
    · subst hjk; rw [Nat.sub_self, Nat.testBit_two_pow_self]; rfl
    · rw [Nat.testBit_two_pow_of_ne (fun q => hjk q.symm)]
      have : j - k = (j - k - 1) + 1 := by omega
      rw [this, Nat.testBit_succ]; simp
theorem addExtN {F G : Int32 → Int32} (hF : Ad F) (hG : Ad G) : ∀ k, (∀ i, i < k → F (nI (2 ^ i)) = G (nI (2 ^ i))) → ∀ n, n < 2 ^ k → F (nI n) = G (nI n) := by
  intro k
  induction k with
  | zero => intro _ n hn; rw [show n = 0 by omega, nI_0, hF.zero, hG.zero]
  | succ k ih =>
    intro h n hn
    by_cases q : n < 2 ^ k
    · exact ih (fun i hi => h i (by omega)) n q
    · have hp : 2 ^ (k + 1) = 2 ^ k + 2 ^ k := by rw [Nat.pow_succ]; omega
      obtain ⟨r, rfl⟩ : ∃ r, n = 2 ^ k + r := ⟨n - 2 ^ k, by omega⟩
      have hr : r < 2 ^ k := by omega
      rw [two_xor hr, ← nx_xor, hF, hG, h k (by omega), ih (fun i hi => h i (by omega)) r hr]
theorem i32_of (x : Int32) : ∃ n, n < 2 ^ 32 ∧ x = nI n := ⟨x.toBitVec.toNat, x.toBitVec.isLt, by apply Int32.toBitVec_inj.mp; show x.toBitVec = BitVec.ofNat 32 x.toBitVec.toNat; simp⟩
theorem addExt {F G : Int32 → Int32} (hF : Ad F) (hG : Ad G) (h : ∀ i, i < 32 → F (nI (2 ^ i)) = G (nI (2 ^ i))) (x : Int32) : F x = G x := by
  obtain ⟨n, hn, rfl⟩ := i32_of x
  exact addExtN hF hG 32 h n hn
def t16 (c0 c1 c2 c3 : Bool) : Int32 := nI (c0.toNat + 256 * c1.toNat + 65536 * c2.toNat + 16777216 * c3.toNat)
theorem t16_bit : ∀ (c0 c1 c2 c3 : Bool) (i : Nat), i < 32 → bt (t16 c0 c1 c2 c3) i = if i = 0 then c0 else if i = 8 then c1 else if i = 16 then c2 else if i = 24 then c3 else false := by decide +kernel
theorem m_bit : ∀ i, i < 32 → bt 16843009 i = (decide (i = 0) || decide (i = 8) || decide (i = 16) || decide (i = 24)) := by decide +kernel
theorem mk16 (x : Int32) : x &&& 16843009 = t16 (bt x 0) (bt x 8) (bt x 16) (bt x 24) := by
  apply b_ext; intro i hi
  rw [b_and, t16_bit _ _ _ _ i hi, m_bit i hi]
  by_cases h0 : i = 0
  · subst h0; simp
  · by_cases h1 : i = 8
    · subst h1; simp
    · by_cases h2 : i = 16
      · subst h2; simp
      · by_cases h3 : i = 24
        · subst h3; simp
        · simp [h0, h1, h2, h3]
theorem t16_ad : ∀ a0 a1 a2 a3 b0 b1 b2 b3 : Bool, (t16 a0 a1 a2 a3 ^^^ t16 b0 b1 b2 b3) * 29 = t16 a0 a1 a2 a3 * 29 ^^^ t16 b0 b1 b2 b3 * 29 := by decide +kernel
theorem Ad.m29 : Ad (fun x => (x &&& 16843009) * 29) := fun x y => by
  show ((x ^^^ y) &&& 16843009) * 29 = (x &&& 16843009) * 29 ^^^ (y &&& 16843009) * 29
  rw [show (x ^^^ y) &&& 16843009 = (x &&& 16843009) ^^^ (y &&& 16843009) from Ad.and 16843009 x y, mk16 x, mk16 y]
  exact t16_ad _ _ _ _ _ _ _ _
theorem txF_ad : Ad txF := by
  have h1 : Ad (fun w => (w &&& 2139062143) <<< (nI 1 &&& 31)) := (Ad.shl (n := 1) (by omega)).comp (Ad.and 2139062143)
  have h2 : Ad (fun w => (ushF w (nI 7) &&& 16843009) * 29) := Ad.m29.comp (Ad.ush (n := 7) (by omega))
  exact h1.xor h2
theorem scP_ad (n : Nat) : Ad (fun w => scP w n) := by
  induction n with
  | zero => exact Ad.id
  | succ n ih => exact txF_ad.comp ih
theorem scS_ad (k : Int32) (n : Nat) : Ad (fun w => scS w k n) := by
  induction n with
  | zero => exact Ad.nil
  | succ n ih =>
    by_cases h : bitF k n = 0
    · intro x y
      show scS (x ^^^ y) k (n + 1) = scS x k (n + 1) ^^^ scS y k (n + 1)
      rw [scS, scS, scS, if_pos h, if_pos h, if_pos h]; exact ih x y
    · intro x y
      show scS (x ^^^ y) k (n + 1) = scS x k (n + 1) ^^^ scS y k (n + 1)
      rw [scS, scS, scS, if_neg h, if_neg h, if_neg h]; exact (ih.xor (scP_ad n)) x y
theorem scF_ad (k : Int32) : Ad (fun w => scF w k) := scS_ad k 8
theorem bit_01 (k : Int32) {n : Nat} (hn : n < 32) : bitF k n = if bt k n then 1 else 0 := by
  apply b_ext; intro i hi
  unfold bitF ushF
  rw [b_and, b_ushr n hn]
  have e1 : bt 1 i = decide (i = 0) := (by decide +kernel : ∀ i, i < 32 → bt 1 i = decide (i = 0)) i hi
  rw [e1]
  by_cases h0 : i = 0
  · subst h0; rw [Nat.add_zero]; cases bt k n <;> rfl
  · cases bt k n
    · simp [h0, b_0]
    · simp [h0, e1]
theorem scS_ak (w : Int32) (n : Nat) (hn : n ≤ 32) : Ad (fun k => scS w k n) := by
  induction n with
  | zero => exact Ad.nil
  | succ n ih =>
    intro x y
    show scS w (x ^^^ y) (n + 1) = scS w x (n + 1) ^^^ scS w y (n + 1)
    have e := ih (by omega) x y
    have e : scS w (x ^^^ y) n = scS w x n ^^^ scS w y n := e
    rw [scS, scS, scS, bit_01 _ (by omega), bit_01 _ (by omega), bit_01 _ (by omega), b_xor, e]
    cases hx : bt x n <;> cases hy : bt y n
    · simp
    · simp [xo_assoc]
    · simp only [Bool.xor_false]
      simp
      rw [xo_assoc, xo_comm (scS w y n), ← xo_assoc]
    · simp
      rw [xo_4, xo_self, xo_zero]
theorem scF_ak (w : Int32) : Ad (fun k => scF w k) := scS_ak w 8 (by omega)
theorem scF_asc : ∀ i, i < 8 → ∀ j, j < 8 → ∀ n, n < 32 → scF (scF (nI (2 ^ n)) (nI (2 ^ i))) (nI (2 ^ j)) = scF (nI (2 ^ n)) (scF (nI (2 ^ i)) (nI (2 ^ j))) := by decide +kernel
/-- times a byte, and then times another -/
theorem scF_assoc (w : Int32) {a b : Nat} (ha : a < 256) (hb : b < 256) : scF (scF w (nI a)) (nI b) = scF w (scF (nI a) (nI b)) := by
  refine addExtN (F := fun x => scF (scF w x) (nI b)) (G := fun x => scF w (scF x (nI b))) ((scF_ad (nI b)).comp (scF_ak w)) ((scF_ak w).comp (scF_ad (nI b))) 8 (fun i hi => ?_) a ha
  refine addExtN (F := fun x => scF (scF w (nI (2 ^ i))) x) (G := fun x => scF w (scF (nI (2 ^ i)) x)) (scF_ak _) ((scF_ak w).comp (scF_ak _)) 8 (fun j hj => ?_) b hb
  exact addExt (F := fun x => scF (scF x (nI (2 ^ i))) (nI (2 ^ j))) (G := fun x => scF x (scF (nI (2 ^ i)) (nI (2 ^ j)))) ((scF_ad _).comp (scF_ad _)) (scF_ad _) (fun n hn => scF_asc i hi j hj n hn) w
theorem scF_one (w : Int32) : scF w 1 = w := addExt (F := fun x => scF x 1) (G := fun x => x) (scF_ad 1) Ad.id (by decide +kernel) w
theorem scF_zero (w : Int32) : scF w 0 = 0 := (scF_ak w).zero
/-- bytes -/
def isB (x : Int32) : Prop := ∃ n, n < 256 ∧ x = nI n
theorem isB.xor {x y : Int32} (hx : isB x) (hy : isB y) : isB (x ^^^ y) := by
  obtain ⟨a, ha, rfl⟩ := hx
  obtain ⟨b, hb, rfl⟩ := hy
  exact ⟨a ^^^ b, Nat.xor_lt_two_pow (n := 8) ha hb, nx_xor a b⟩
theorem tx_b : ∀ n, n < 256 → txF (nI n) &&& 255 = txF (nI n) := by decide +kernel
theorem isB.and (x : Int32) : isB (x &&& 255) := by
  obtain ⟨n, hn, rfl⟩ := i32_of x
  refine ⟨n % 256, Nat.mod_lt _ (by omega), ?_⟩
  show nI n &&& nI 255 = _
  rw [nx_and, show (255 : Nat) = 2 ^ 8 - 1 from rfl, Nat.and_two_pow_sub_one_eq_mod]
theorem isB.tx {x : Int32} (hx : isB x) : isB (txF x) := by
  obtain ⟨a, ha, rfl⟩ := hx
  rw [← tx_b a ha]
  exact isB.and _
theorem isB.sp {x : Int32} (hx : isB x) (n : Nat) : isB (scP x n) := by
  induction n with
  | zero => exact hx
  | succ n ih => exact ih.tx
theorem isB.ss {x : Int32} (hx : isB x) (k : Int32) (n : Nat) : isB (scS x k n) := by
  induction n with
  | zero => exact ⟨0, by omega, rfl⟩
  | succ n ih =>
    rw [scS]
    split
    · exact ih
    · exact ih.xor (hx.sp n)
theorem isB.sc {x : Int32} (hx : isB x) (k : Int32) : isB (scF x k) := hx.ss k 8
theorem scP_tx (x : Int32) (r : Nat) : scP (txF x) r = scP x (r + 1) := by
  induction r with
  | zero => rfl
  | succ r ih => rw [scP, ih]; rfl
theorem xt_b : ∀ n, n < 256 → (if nI n <<< ((1 : Int32) &&& 31) ≤ 255 then nI n <<< ((1 : Int32) &&& 31) else (nI n <<< ((1 : Int32) &&& 31)) ^^^ 285) = txF (nI n) := by decide +kernel
theorem bit_b : ∀ n, n < 256 → ∀ r, r < 8 → ((nI n >>> (nI r &&& 31)) &&& 1) = bitF (nI n) r := by decide +kernel
/-- the reference's product of two bytes is the class's -/
theorem prG_eq {a b : Int32} (ha : isB a) (hb : isB b) : ∀ (r : Nat) (acc : Int32), r ≤ 8 → isB acc → prG a b r acc = scP acc r ^^^ scS a b r := by
  obtain ⟨nb, hnb, rfl⟩ := hb
  intro r
  induction r with
  | zero => intro acc _ _; rw [prG, scP, scS, xo_zero]
  | succ r ih =>
    intro acc hr hacc
    obtain ⟨na, hna, rfl⟩ := hacc
    have hst : stp a (nI nb) r (nI na) = if bitF (nI nb) r = 0 then txF (nI na) else txF (nI na) ^^^ a := by rw [stp, xt_b na hna, bit_b nb hnb r (by omega)]
    have hB : isB (txF (nI na)) := isB.tx ⟨na, hna, rfl⟩
    rw [prG, hst]
    by_cases h : bitF (nI nb) r = 0
    · rw [if_pos h, ih _ (by omega) hB, scP_tx, scS, if_pos h]
    · rw [if_neg h, ih _ (by omega) (hB.xor ha), show scP (txF (nI na) ^^^ a) r = scP (txF (nI na)) r ^^^ scP a r from scP_ad r _ _, scP_tx, scS, if_neg h, xo_assoc, xo_comm (scP a r)]
theorem prF_eq {a b : Int32} (ha : isB a) (hb : isB b) : prF a b = scF a b := by
  rw [prF, prG_eq ha hb 8 0 (Nat.le_refl 8) ⟨0, by omega, rfl⟩, show scP 0 8 = 0 from (scP_ad 8).zero, zero_xo]; rfl
theorem pwF_b {x : Int32} (hx : isB x) : ∀ n, isB (pwF x n) := by
  intro n
  induction n with
  | zero => exact ⟨1, by omega, rfl⟩
  | succ n ih => rw [pwF, prF_eq ih hx]; exact ih.sc x
theorem pwF_s {x : Int32} (hx : isB x) (n : Nat) : pwF x (n + 1) = scF (pwF x n) x := by rw [pwF, prF_eq (pwF_b hx n) hx]
/-- a lane -/
def laF (k : Int32) (b : Nat) (x : Int32) : Int32 := scF (ushF x (nI (8 * b)) &&& 255) k <<< (nI (8 * b) &&& 31)
theorem laF_ad (k : Int32) {b : Nat} (hb : b < 4) : Ad (laF k b) := (Ad.shl (n := 8 * b) (by omega)).comp ((scF_ad k).comp ((Ad.and 255).comp (Ad.ush (n := 8 * b) (by omega))))
theorem or_xo {x y : Int32} {n : Nat} (hx : ∀ i, n ≤ i → i < 32 → bt x i = false) (hy : ∀ i, i < n → bt y i = false) : x ||| y = x ^^^ y := by
  apply b_ext; intro i hi
  rw [b_or, b_xor]
  by_cases h : i < n
  · rw [hy i h]; simp
  · rw [hx i (by omega) hi]; simp
theorem la_lo (k x : Int32) {b : Nat} (hb : b < 4) : ∀ i, i < 8 * b → bt (laF k b x) i = false := by
  intro i hi
  rw [laF, b_shl (8 * b) (by omega) _ (by omega), decide_eq_false (by omega)]; rfl
theorem isB.hi {x : Int32} (hx : isB x) {i : Nat} (hi : 8 ≤ i) : bt x i = false := by
  obtain ⟨n, hn, rfl⟩ := hx
  rcases Nat.lt_or_ge i 32 with h | h
  · have : nI n &&& nI 255 = nI n := by rw [nx_and, show (255 : Nat) = 2 ^ 8 - 1 from rfl, Nat.and_two_pow_sub_one_eq_mod, Nat.mod_eq_of_lt hn]
    rw [← this, b_and, show nI 255 = 255 from rfl, b_255, decide_eq_false (by omega)]; simp
  · exact b_big h
theorem la_hi (k x : Int32) {b : Nat} (hb : b < 4) : ∀ i, 8 * (b + 1) ≤ i → i < 32 → bt (laF k b x) i = false := by
  intro i h1 h2
  rw [laF, b_shl (8 * b) (by omega) _ h2, (isB.sc (isB.and _) k).hi (by omega)]; simp
theorem smS_eq {k : Int32} (hk : isB k) (x : Int32) : ∀ b, b ≤ 4 → (smS x k b = if b = 0 then 0 else if b = 1 then laF k 0 x else if b = 2 then laF k 0 x ^^^ laF k 1 x else if b = 3 then laF k 0 x ^^^ laF k 1 x ^^^ laF k 2 x else laF k 0 x ^^^ laF k 1 x ^^^ laF k 2 x ^^^ laF k 3 x) ∧ ∀ i, 8 * b ≤ i → i < 32 → bt (smS x k b) i = false := by
  have st : ∀ b, b < 4 → (∀ i, 8 * b ≤ i → i < 32 → bt (smS x k b) i = false) → smS x k (b + 1) = smS x k b ^^^ laF k b x ∧ ∀ i, 8 * (b + 1) ≤ i → i < 32 → bt (smS x k (b + 1)) i = false := by
    intro b hb h
    have e : smS x k (b + 1) = smS x k b ^^^ laF k b x := by
      rw [smS, prF_eq (isB.and _) hk]
      exact or_xo (n := 8 * b) h (la_lo k x hb)
    refine ⟨e, fun i h1 h2 => ?_⟩
    rw [e, b_xor, h i (by omega) h2, la_hi k x hb i h1 h2]; rfl
  have z0 : ∀ i, 8 * 0 ≤ i → i < 32 → bt (smS x k 0) i = false := fun i _ _ => b_0 i
  obtain ⟨e1, z1⟩ := st 0 (by omega) z0
  obtain ⟨e2, z2⟩ := st 1 (by omega) z1
  obtain ⟨e3, z3⟩ := st 2 (by omega) z2
  obtain ⟨e4, z4⟩ := st 3 (by omega) z3
  have e0 : smS x k 0 = 0 := rfl
  rw [e0, zero_xo] at e1
  rw [e1] at e2
  rw [e2] at e3
  rw [e3] at e4
  intro b hb
  rcases (show b = 0 ∨ b = 1 ∨ b = 2 ∨ b = 3 ∨ b = 4 by omega) with rfl | rfl | rfl | rfl | rfl
  · exact ⟨rfl, z0⟩
  · exact ⟨e1, z1⟩
  · exact ⟨e2, z2⟩
  · exact ⟨e3, z3⟩
  · exact ⟨e4, z4⟩
theorem la_base : ∀ j, j < 8 → ∀ n, n < 32 → laF (nI (2 ^ j)) 0 (nI (2 ^ n)) ^^^ laF (nI (2 ^ j)) 1 (nI (2 ^ n)) ^^^ laF (nI (2 ^ j)) 2 (nI (2 ^ n)) ^^^ laF (nI (2 ^ j)) 3 (nI (2 ^ n)) = scF (nI (2 ^ n)) (nI (2 ^ j)) := by decide +kernel
theorem laF_ak (x : Int32) {b : Nat} (hb : b < 4) : Ad (fun k => laF k b x) := (Ad.shl (n := 8 * b) (by omega)).comp (scF_ak _)
/-- the reference's scaled word is the class's -/
theorem smF_eq {k : Int32} (hk : isB k) (x : Int32) : smF x k = scF x k := by
  rw [smF, (smS_eq hk x 4 (Nat.le_refl 4)).1]
  obtain ⟨nk, hnk, rfl⟩ := hk
  show laF (nI nk) 0 x ^^^ laF (nI nk) 1 x ^^^ laF (nI nk) 2 x ^^^ laF (nI nk) 3 x = _
  refine addExtN (F := fun k => laF k 0 x ^^^ laF k 1 x ^^^ laF k 2 x ^^^ laF k 3 x) (G := fun k => scF x k) ((((laF_ak x (by omega)).xor (laF_ak x (by omega))).xor (laF_ak x (by omega))).xor (laF_ak x (by omega))) (scF_ak x) 8 (fun j hj => ?_) nk hnk
  exact addExt (F := fun z => laF (nI (2 ^ j)) 0 z ^^^ laF (nI (2 ^ j)) 1 z ^^^ laF (nI (2 ^ j)) 2 z ^^^ laF (nI (2 ^ j)) 3 z) (G := fun z => scF z (nI (2 ^ j))) ((((laF_ad _ (by omega)).xor (laF_ad _ (by omega))).xor (laF_ad _ (by omega))).xor (laF_ad _ (by omega))) (scF_ad _) (fun n hn => la_base j hj n hn) x
/-- shares: powers, summed -/
def pwS (cw : Nat → Int32) (pt : Int32) (j : Nat) : Nat → Int32
  | 0 => 0
  | n + 1 => pwS cw pt j n ^^^ scF (cw (j + n)) (pwF pt n)
theorem scF_pw {pt : Int32} (hp : isB pt) (w : Int32) (n : Nat) : scF (scF w (pwF pt n)) pt = scF w (pwF pt (n + 1)) := by
  rw [pwF_s hp]
  obtain ⟨a, ha, ea⟩ := pwF_b hp n
  obtain ⟨b, hb, eb⟩ := hp
  rw [ea, eb, scF_assoc w ha hb]
theorem pwS_sc {cw : Nat → Int32} {pt : Int32} (hp : isB pt) (j : Nat) : ∀ n, scF (pwS cw pt (j + 1) n) pt ^^^ cw j = pwS cw pt j (n + 1) := by
  intro n
  induction n with
  | zero => rw [pwS, pwS, pwS, show scF 0 pt = 0 from (scF_ad pt).zero, zero_xo, zero_xo, Nat.add_zero, show pwF pt 0 = 1 from rfl, scF_one]
  | succ n ih =>
    rw [show pwS cw pt (j + 1) (n + 1) = pwS cw pt (j + 1) n ^^^ scF (cw (j + 1 + n)) (pwF pt n) from rfl, show scF (pwS cw pt (j + 1) n ^^^ scF (cw (j + 1 + n)) (pwF pt n)) pt = scF (pwS cw pt (j + 1) n) pt ^^^ scF (scF (cw (j + 1 + n)) (pwF pt n)) pt from scF_ad pt _ _, scF_pw hp, xo_assoc, xo_comm (scF (cw (j + 1 + n)) (pwF pt (n + 1))), ← xo_assoc, ih, show j + 1 + n = j + (n + 1) by omega]
    rfl
theorem shG_pw {cw : Nat → Int32} {pt : Int32} (hp : isB pt) : ∀ n j, shG cw pt j n = pwS cw pt j n := by
  intro n
  induction n with
  | zero => intro j; rfl
  | succ n ih => intro j; rw [shG, ih (j + 1), pwS_sc hp]
theorem shM_pw {cw : Nat → Int32} {pt : Int32} (hp : isB pt) : ∀ n, shM cw pt n = pwS cw pt 0 n := by
  intro n
  induction n with
  | zero => rfl
  | succ n ih => rw [shM, pwS, ih, smF_eq (pwF_b hp n), Nat.zero_add]
theorem pt_b {s : Nat} (h : s < 7) : isB (nI s + 1) := ⟨s + 1, by omega, nI_1 s⟩
/-- the reference's share is the class's -/
theorem sh_eq {cw : Nat → Int32} {s K : Nat} (h : s < 7) : shM cw (nI s + 1) K = shG cw (nI s + 1) 0 K := by rw [shM_pw (pt_b h), shG_pw (pt_b h)]
