/-! the reference: small writes -/
def pM (T : Nat → ClassId) (bd : Nat → Nat) (K N : Nat) (M : xM) (an : Int32 × gT) (r : Option Value) (M1 : xM) : Prop := r = some (.int an.1) ∧ ∃ q', mR T bd K N M q' M1 ∧ sM K N an.2 q'
section SU
variable {K N : Nat} {g g' : gT} {q q' : qT}
theorem upd_eq {a b : Nat → Int32} {j : Nat} {y : Int32} {i : Nat} (h : i ≠ j → a i = b i) : upd a j y i = upd b j y i := by
  by_cases e : i = j
  · subst e; rw [upd_s, upd_s]
  · rw [upd_n e, upd_n e]; exact h e
theorem sM_draft (h : sM K N g q) {j : Nat} {y : Int32} : sM K N (upS g 4 0 0 (upd (g 4 0 0) j y)) (upQ q 9 (upd (q 9) j y)) := by
  obtain ⟨a1, a2, a3, a4, a5, a6, a7⟩ := h
  exact ⟨a1, a2, a3, a4, a5, a6, fun i hi => ⟨upd_eq (fun _ => (a7 i hi).1), (a7 i hi).2⟩⟩
theorem sM_server (h : sM K N g q) {j : Nat} {u k : Int32} : sM K N (upS (upS g 1 0 0 (upd (g 1 0 0) j u)) 2 0 0 (upd (g 2 0 0) j k)) (upQ (upQ q 1 (upd (q 1) j u)) 2 (upd (q 2) j k)) := by
  obtain ⟨a1, a2, a3, a4, a5, a6, a7⟩ := h
  exact ⟨a1, a2, fun s hs => ⟨upd_eq (fun _ => (a3 s hs).1), upd_eq (fun _ => (a3 s hs).2)⟩, a4, a5, a6, a7⟩
theorem sM_create (h : sM K N g q) {c0 : Nat} {v : Int32} : sM K N (upS (upS g 12 c0 0 (upd (g 12 c0 0) 0 v)) 0 0 0 (upd (g 0 0 0) 0 (nI (c0 + 1)))) (upQ (upQ q 3 (upd (q 3) c0 v)) 0 (upd (q 0) 0 (nI (c0 + 1)))) := by
  obtain ⟨a1, a2, a3, a4, a5, a6, a7⟩ := h
  refine ⟨rfl, a2, a3, fun f hf => ?_, a5, a6, a7⟩
  by_cases e : f = c0
  · subst e
    rw [upS_n (by omega), upS_s]
    exact ⟨upd_s, (a4 f hf).2⟩
  · rw [upS_n (by omega), upS_n (by omega)]
    exact ⟨(upd_n e).trans (a4 f hf).1, (a4 f hf).2⟩
theorem sM_rec (h : sM K N g q) {f s : Nat} (hf : f < 6) (hs : s < N) (h7 : N ≤ 7) (hg : ∀ k f1 s1, ¬ ((k = 17 ∨ k = 18) ∧ f1 = f ∧ s1 = s) → g' k f1 s1 = g k f1 s1) (hq : ∀ k, k ≠ 7 → k ≠ 8 → q' k = q k) (h8 : ∀ a, a ≠ f * 7 + s → q' 8 a = q 8 a) (hr7 : ∀ a b, a ≠ f * 7 + s → b < 10 → q' 7 (a * 10 + b) = q 7 (a * 10 + b)) (hr : rwS N q' (f * 7 + s) (g' 17 f s) (g' 18 f s)) : sM K N g' q' := by
  obtain ⟨a1, a2, a3, a4, a5, a6, a7⟩ := h
  have ow : ∀ (at0 : Nat) (x y : Nat → Int32), at0 ≠ f * 7 + s → rwS N q at0 x y → rwS N q' at0 x y := by
    intro at0 x y hne ⟨b1, b2, b3, b4, b5⟩
    refine ⟨(h8 _ hne).trans b1, ?_, (hr7 _ 1 hne (by omega)).trans b3, (hr7 _ 2 hne (by omega)).trans b4, fun j hj => ?_⟩
    · have := hr7 at0 0 hne (by omega); rw [Nat.add_zero] at this; exact this.trans b2
    · have := hr7 at0 (3 + j) hne (by omega); rw [← Nat.add_assoc] at this; exact this.trans (b5 j hj)
  refine ⟨?_, ?_, fun t ht => ?_, fun t ht => ?_, fun t j ht hj => ?_, fun t u ht hu => ⟨?_, ?_⟩, fun i hi => ?_⟩
  · rw [hq 0 (by omega) (by omega), hg 0 0 0 (by omega)]; exact a1
  · rw [hq 0 (by omega) (by omega), hg 0 0 0 (by omega)]; exact a2
  · rw [hq 1 (by omega) (by omega), hq 2 (by omega) (by omega), hg 1 0 0 (by omega), hg 2 0 0 (by omega)]; exact a3 t ht
  · rw [hq 3 (by omega) (by omega), hq 4 (by omega) (by omega), hg 12 t 0 (by omega)]; exact a4 t ht
  · rw [hq 5 (by omega) (by omega), hq 6 (by omega) (by omega), hg 15 t 0 (by omega), hg 16 t 0 (by omega)]; exact a5 t j ht hj
  · by_cases e : t = f ∧ u = s
    · obtain ⟨rfl, rfl⟩ := e; exact hr
    · rw [hg 17 t u (by omega), hg 18 t u (by omega)]; exact ow _ _ _ (by omega) (a6 t u ht hu).1
  · rw [hg 19 t u (by omega), hg 20 t u (by omega)]; exact ow _ _ _ (by omega) (a6 t u ht hu).2
  · rw [hq 9 (by omega) (by omega), hq 10 (by omega) (by omega), hg 4 0 0 (by omega), hg 5 0 0 (by omega)]; exact a7 i hi
theorem sM_pic (h : sM K N g q) {f s : Nat} (hf : f < 6) (hs : s < N) (h7 : N ≤ 7) (hg : ∀ k f1 s1, ¬ ((k = 19 ∨ k = 20) ∧ f1 = f ∧ s1 = s) → g' k f1 s1 = g k f1 s1) (hq : ∀ k, k ≠ 7 → k ≠ 8 → q' k = q k) (h8 : ∀ a, a ≠ 42 + f * 7 + s → q' 8 a = q 8 a) (hr7 : ∀ a b, a ≠ 42 + f * 7 + s → b < 10 → q' 7 (a * 10 + b) = q 7 (a * 10 + b)) (hr : rwS N q' (42 + f * 7 + s) (g' 19 f s) (g' 20 f s)) : sM K N g' q' := by
  obtain ⟨a1, a2, a3, a4, a5, a6, a7⟩ := h
  have ow : ∀ (at0 : Nat) (x y : Nat → Int32), at0 ≠ 42 + f * 7 + s → rwS N q at0 x y → rwS N q' at0 x y := by
    intro at0 x y hne ⟨b1, b2, b3, b4, b5⟩
    refine ⟨(h8 _ hne).trans b1, ?_, (hr7 _ 1 hne (by omega)).trans b3, (hr7 _ 2 hne (by omega)).trans b4, fun j hj => ?_⟩
    · have := hr7 at0 0 hne (by omega); rw [Nat.add_zero] at this; exact this.trans b2
    · have := hr7 at0 (3 + j) hne (by omega); rw [← Nat.add_assoc] at this; exact this.trans (b5 j hj)
  refine ⟨?_, ?_, fun t ht => ?_, fun t ht => ?_, fun t j ht hj => ?_, fun t u ht hu => ⟨?_, ?_⟩, fun i hi => ?_⟩
  · rw [hq 0 (by omega) (by omega), hg 0 0 0 (by omega)]; exact a1
  · rw [hq 0 (by omega) (by omega), hg 0 0 0 (by omega)]; exact a2
  · rw [hq 1 (by omega) (by omega), hq 2 (by omega) (by omega), hg 1 0 0 (by omega), hg 2 0 0 (by omega)]; exact a3 t ht
  · rw [hq 3 (by omega) (by omega), hq 4 (by omega) (by omega), hg 12 t 0 (by omega)]; exact a4 t ht
  · rw [hq 5 (by omega) (by omega), hq 6 (by omega) (by omega), hg 15 t 0 (by omega), hg 16 t 0 (by omega)]; exact a5 t j ht hj
  · rw [hg 17 t u (by omega), hg 18 t u (by omega)]; exact ow _ _ _ (by omega) (a6 t u ht hu).1
  · by_cases e : t = f ∧ u = s
    · obtain ⟨rfl, rfl⟩ := e; exact hr
    · rw [hg 19 t u (by omega), hg 20 t u (by omega)]; exact ow _ _ _ (by omega) (a6 t u ht hu).2
  · rw [hq 9 (by omega) (by omega), hq 10 (by omega) (by omega), hg 4 0 0 (by omega), hg 5 0 0 (by omega)]; exact a7 i hi
theorem rwS_7 {at0 p : Nat} {x y x' y' : Nat → Int32} {v : Int32} (h : rwS N q at0 x y) (hN : N ≤ 7) (hp : p < 10) (e0 : x' 0 = x 0) (e1 : x' 1 = if p = 0 then v else x 1) (e2 : x' 2 = if p = 1 then v else x 2) (e3 : x' 3 = if p = 2 then v else x 3) (e4 : ∀ j, j < N → y' j = if p = 3 + j then v else y j) : rwS N (upQ q 7 (upd (q 7) (at0 * 10 + p) v)) at0 x' y' := by
  obtain ⟨b1, b2, b3, b4, b5⟩ := h
  have key : ∀ c, upd (q 7) (at0 * 10 + p) v (at0 * 10 + c) = if p = c then v else q 7 (at0 * 10 + c) := by
    intro c
    by_cases e : p = c
    · subst e; rw [upd_s, if_pos rfl]
    · rw [upd_n (by omega), if_neg e]
  refine ⟨by rw [upQ_n (by omega), e0]; exact b1, ?_, ?_, ?_, fun j hj => ?_⟩
  · rw [upQ_s]; have := key 0; rw [Nat.add_zero] at this; rw [this, e1, b2]
  · rw [upQ_s, key 1, e2, b3]
  · rw [upQ_s, key 2, e3, b4]
  · rw [upQ_s]; have := key (3 + j); rw [← Nat.add_assoc] at this; rw [this, e4 j hj, b5 j hj]
end SU
theorem upQ_uu {q : qT} {k : Nat} {h h' : Nat → Int32} : upQ (upQ q k h) k h' = upQ q k h' := by
  funext k1
  by_cases e : k1 = k
  · subst e; rw [upQ_s, upQ_s]
  · rw [upQ_n e, upQ_n e, upQ_n e]
set_option maxHeartbeats 4000000 in
set_option maxRecDepth 100000 in
theorem c_M_draft (l : Launch) (D : va_G) (T : Nat → ClassId) (A : Nat → Prop) (M : xM) (bd : Nat → Nat) (K N : Nat) (q : Nat → Nat → Int32) (hz : zB K N) (hM : mG T bd K N q M) (g : gT) (hs : sM K N g q) (c0 : Nat) (w : Nat → Nat) (hI : iG N g c0 w) (x y : Int32) : Met l y_M_draft (Cond.code y_M_draft b_M_draft 3 (some .int) :: gw) (rmH 0) (xPc D T A M [.ref (bd 0), .int x, .int y]) (xQ D A (fun r M1 => pM T bd K N M (aDraft K g x y) r M1)) 0 0 A := by
  refine xMetQi (by decide) (Nat.le_of_ble_eq_true rfl) ?_
  intro p e s m below meth c Q ls hB hP hS hl hret
  obtain ⟨hx, hb, hml, hown, hg, hK0, hnm⟩ := hB
  have hown : s.vm.findClass "ShareGridModel" = some m.cls := hown
  have hK := hK0.1
  have hN := hK0.2.1
  obtain ⟨hz1, hz4, hzn, hz7⟩ := id hz
  obtain ⟨hq, hq6, hwr, hbo⟩ := id hI
  have hR := hM.rf
  have hl : lv_has ls 3 [(0, .ref (bd 0)), (1, .int x), (2, .int y)] := hl
  refine lv_iload_n hx hb d_M_draft_0 rfl (lv_at hl 1 rfl) ?_
  refine lv_if_lt (tgt := 12) hx hb d_M_draft_1 (by decide) (fun c_1 => ?_) (fun c_1 => ?_)
  · refine lv_iconst (v := (-1)) hx hb d_M_draft_12 (by decide) ?_
    exact hret _ _ _ _ _ _ d_M_draft_13 hP hS (by rw [aDraft, if_pos (by simp [inF, c_1])]; exact ⟨rfl, q, hR, hs⟩)
  · refine lv_iload_n hx hb d_M_draft_4 rfl (lv_at hl 1 rfl) ?_
    refine lv_aload_n hx hb d_M_draft_5 rfl (lv_at hl 0 rfl) ?_
    refine x_get (v := .int (nI K)) (C := R_M) (T := F_M) (N := 17) hx hb hg i_M hown hK hP (ma_0 hM) rfl 0 (by decide) (hg _ w_354) (fun _ h9 => h9) rfl d_M_draft_6 ?_
    refine lv_icmp_lt (tgt := 14) hx hb d_M_draft_9 (by decide) (fun c_9 => ?_) (fun c_9 => ?_)
    · have cn : ¬ nI K ≤ x := Int32.not_le.mpr c_9
      have cin : ¬ inF x (nI K) = 0 := by simp [inF, c_1, cn]
      obtain ⟨j, hj, rfl⟩ := inF_j (by omega) cin
      refine lv_aload_n hx hb d_M_draft_14 rfl (lv_at hl 0 rfl) ?_
      refine x_get (v := .ref (bd 9)) (C := R_M) (T := F_M) (N := 17) hx hb hg i_M hown hK hP (ma_0 hM) rfl 11 (by decide) (hg _ w_365) (fun _ h9 => h9) rfl d_M_draft_15 ?_
      refine lv_iload_n hx hb d_M_draft_18 rfl (lv_at hl 1 rfl) ?_
      refine lv_iload_n hx hb d_M_draft_19 rfl (lv_at hl 2 rfl) ?_
      refine x_iast hx hb hK hP hS 0 (ma_9 hM) rfl (vp_in_nI (by omega) (by omega)) d_M_draft_20 (fun H_174 L_175 hP hS => ?_)
      rw [nI_clamp (by omega)] at hP
      obtain ⟨q_176, hq_176⟩ : ∃ z, z = upQ q 9 (upd (q 9) j y) := ⟨_, rfl⟩
      obtain ⟨M_177, hP, hR⟩ : ∃ z, xW D classes A z H_174 ∧ mR T bd K N M q_176 z := ⟨_, hP, by rw [hq_176]; exact hR.set (by omega) rfl⟩
      have hM := hR.1
      refine lv_iconst (v := nI 0) hx hb d_M_draft_21 (by decide) ?_
      exact hret _ _ _ _ _ _ d_M_draft_22 hP hS (by rw [aDraft, if_neg cin, nI_clamp (by omega)]; exact ⟨rfl, _, hR, by rw [hq_176]; exact sM_draft hs⟩)
    · refine lv_iconst (v := (-1)) hx hb d_M_draft_12 (by decide) ?_
      exact hret _ _ _ _ _ _ d_M_draft_13 hP hS (by rw [aDraft, if_pos (by simp [inF, c_1, Int32.not_lt.mp c_9])]; exact ⟨rfl, q, hR, hs⟩)
set_option maxHeartbeats 4000000 in
set_option maxRecDepth 100000 in
theorem c_M_server (l : Launch) (D : va_G) (T : Nat → ClassId) (A : Nat → Prop) (M : xM) (bd : Nat → Nat) (K N : Nat) (q : Nat → Nat → Int32) (hz : zB K N) (hM : mG T bd K N q M) (g : gT) (hs : sM K N g q) (c0 : Nat) (w : Nat → Nat) (hI : iG N g c0 w) (x u k : Int32) (hu : u = 0 ∨ u = 1) (hk : k = 0 ∨ k = 1) : Met l y_M_server (Cond.code y_M_server b_M_server 4 (some .int) :: gw) (rmH 0) (xPc D T A M [.ref (bd 0), .int x, .int u, .int k]) (xQ D A (fun r M1 => pM T bd K N M (aServer N g x u k) r M1)) 0 0 A := by
  refine xMetQi (by decide) (Nat.le_of_ble_eq_true rfl) ?_
  intro p e s m below meth c Q ls hB hP hS hl hret
  obtain ⟨hx, hb, hml, hown, hg, hK0, hnm⟩ := hB
  have hown : s.vm.findClass "ShareGridModel" = some m.cls := hown
  have hK := hK0.1
  have hN := hK0.2.1
  obtain ⟨hz1, hz4, hzn, hz7⟩ := id hz
  obtain ⟨hq, hq6, hwr, hbo⟩ := id hI
  have hR := hM.rf
  have hl : lv_has ls 4 [(0, .ref (bd 0)), (1, .int x), (2, .int u), (3, .int k)] := hl
  refine lv_iload_n hx hb d_M_server_0 rfl (lv_at hl 1 rfl) ?_
  refine lv_if_lt (tgt := 12) hx hb d_M_server_1 (by decide) (fun c_1 => ?_) (fun c_1 => ?_)
  · refine lv_iconst (v := (-1)) hx hb d_M_server_12 (by decide) ?_
    exact hret _ _ _ _ _ _ d_M_server_13 hP hS (by rw [aServer, if_pos (by simp [inF, c_1])]; exact ⟨rfl, q, hR, hs⟩)
  · refine lv_iload_n hx hb d_M_server_4 rfl (lv_at hl 1 rfl) ?_
    refine lv_aload_n hx hb d_M_server_5 rfl (lv_at hl 0 rfl) ?_
    refine x_get (v := .int (nI N)) (C := R_M) (T := F_M) (N := 17) hx hb hg i_M hown hK hP (ma_0 hM) rfl 1 (by decide) (hg _ w_355) (fun _ h9 => h9) rfl d_M_server_6 ?_
    refine lv_icmp_lt (tgt := 14) hx hb d_M_server_9 (by decide) (fun c_9 => ?_) (fun c_9 => ?_)
    · have cn : ¬ nI N ≤ x := Int32.not_le.mpr c_9
      have cin : ¬ inF x (nI N) = 0 := by simp [inF, c_1, cn]
      obtain ⟨j, hj, rfl⟩ := inF_j (by omega) cin
      refine lv_aload_n hx hb d_M_server_14 rfl (lv_at hl 0 rfl) ?_
      refine x_get (v := .ref (bd 1)) (C := R_M) (T := F_M) (N := 17) hx hb hg i_M hown hK hP (ma_0 hM) rfl 2 (by decide) (hg _ w_356) (fun _ h9 => h9) rfl d_M_server_15 ?_
      refine lv_iload_n hx hb d_M_server_18 rfl (lv_at hl 1 rfl) ?_
      refine lv_iload_n hx hb d_M_server_19 rfl (lv_at hl 2 rfl) ?_
      refine x_zast hx hb hK hP hS 1 (ma_1 hM) rfl (vp_in_nI (by omega) (by omega)) d_M_server_20 (fun H_178 L_179 hP hS => ?_)
      rw [show vp_nar .boolean u = u from by rcases hu with h | h <;> rw [h] <;> rfl] at hP
      rw [nI_clamp (by omega)] at hP
      obtain ⟨q_180, hq_180⟩ : ∃ z, z = upQ q 1 (upd (q 1) j u) := ⟨_, rfl⟩
      obtain ⟨M_181, hP, hR⟩ : ∃ z, xW D classes A z H_178 ∧ mR T bd K N M q_180 z := ⟨_, hP, by rw [hq_180]; exact hR.set (by omega) rfl⟩
      have hM := hR.1
      refine lv_aload_n hx hb d_M_server_21 rfl (lv_at hl 0 rfl) ?_
      refine x_get (v := .ref (bd 2)) (C := R_M) (T := F_M) (N := 17) hx hb hg i_M hown hK hP (ma_0 hM) rfl 3 (by decide) (hg _ w_357) (fun _ h9 => h9) rfl d_M_server_22 ?_
      refine lv_iload_n hx hb d_M_server_25 rfl (lv_at hl 1 rfl) ?_
      refine lv_iload_n hx hb d_M_server_26 rfl (lv_at hl 3 rfl) ?_
      refine x_zast hx hb hK hP hS 1 (ma_2 hM) rfl (vp_in_nI (by omega) (by omega)) d_M_server_27 (fun H_182 L_183 hP hS => ?_)
      rw [show vp_nar .boolean k = k from by rcases hk with h | h <;> rw [h] <;> rfl] at hP
      rw [nI_clamp (by omega)] at hP
      obtain ⟨q_184, hq_184⟩ : ∃ z, z = upQ q_180 2 (upd (q_180 2) j k) := ⟨_, rfl⟩
      obtain ⟨M_185, hP, hR⟩ : ∃ z, xW D classes A z H_182 ∧ mR T bd K N M q_184 z := ⟨_, hP, by rw [hq_184]; exact hR.set (by omega) rfl⟩
      have hM := hR.1
      refine lv_iconst (v := nI 0) hx hb d_M_server_28 (by decide) ?_
      exact hret _ _ _ _ _ _ d_M_server_29 hP hS (by rw [aServer, if_neg cin, nI_clamp (by omega)]; exact ⟨rfl, _, hR, by rw [hq_184, hq_180]; exact sM_server hs⟩)
    · refine lv_iconst (v := (-1)) hx hb d_M_server_12 (by decide) ?_
      exact hret _ _ _ _ _ _ d_M_server_13 hP hS (by rw [aServer, if_pos (by simp [inF, c_1, Int32.not_lt.mp c_9])]; exact ⟨rfl, q, hR, hs⟩)
set_option maxHeartbeats 4000000 in
set_option maxRecDepth 100000 in
theorem c_M_create (l : Launch) (D : va_G) (T : Nat → ClassId) (A : Nat → Prop) (M : xM) (bd : Nat → Nat) (K N : Nat) (q : Nat → Nat → Int32) (hz : zB K N) (hM : mG T bd K N q M) (g : gT) (hs : sM K N g q) (c0 : Nat) (w : Nat → Nat) (hI : iG N g c0 w) (x : Int32) : Met l y_M_create (Cond.code y_M_create b_M_create 3 (some .int) :: gw) (rmH 2) (xPc D T A M [.ref (bd 0), .int x]) (xQ D A (fun r M1 => pM T bd K N M (aCreate g c0 x) r M1)) 0 0 A := by
  refine xMetQi (by decide) (Nat.le_of_ble_eq_true rfl) ?_
  intro p e s m below meth c Q ls hB hP hS hl hret
  obtain ⟨hx, hb, hml, hown, hg, hK0, hnm⟩ := hB
  have hown : s.vm.findClass "ShareGridModel" = some m.cls := hown
  have hK := hK0.1
  have hN := hK0.2.1
  obtain ⟨hz1, hz4, hzn, hz7⟩ := id hz
  obtain ⟨hq, hq6, hwr, hbo⟩ := id hI
  have hR := hM.rf
  have hl : lv_has ls 3 [(0, .ref (bd 0)), (1, .int x)] := hl
  refine lv_aload_n hx hb d_M_create_0 rfl (lv_at hl 0 rfl) ?_
  refine lv_iload_n hx hb d_M_create_1 rfl (lv_at hl 1 rfl) ?_
  refine lv_iconst (v := 3) hx hb d_M_create_2 (by decide) ?_
  refine xv_R (n := 2) (As := [.int x, .int 3]) (rest := []) hx hb hml hown hg hK0 hP (c_M_key l D T A _ bd K N q hz hM x 3) w_409 w_6 w_420 w_407 w_408 (ma_0 hM) rfl rfl (by decide +kernel) ⟨Nat.le_of_ble_eq_true rfl, Nat.le_of_ble_eq_true rfl⟩ rfl hl.1 rfl (Nat.le_of_ble_eq_true rfl) ⟨Nat.zero_le _, Nat.zero_le _⟩ rfl rfl d_M_create_3 (fun r hr => ?_)
  subst hr
  refine x_fr (pc := 6) [.int (aKey x 3)] rfl rfl ?_
  refine x_top (y := (mixF (mixF x 1) 2)) (by rfl) ?_
  refine lv_istore_n (lv' := [(2, .int (mixF (mixF x 1) 2)), (0, .ref (bd 0)), (1, .int x)]) hx hb d_M_create_6 rfl hl (by decide) rfl (fun ls hl => ?_)
  refine lv_aload_n hx hb d_M_create_7 rfl (lv_at hl 1 rfl) ?_
  refine lv_iload_n hx hb d_M_create_8 rfl (lv_at hl 0 rfl) ?_
  refine xv_R (n := 1) (As := [.int (mixF (mixF x 1) 2)]) (rest := []) hx hb hml hown hg hK0 hP (c_M_fileOf l D T A _ bd K N q hz hM g hs c0 w hI (mixF (mixF x 1) 2)) w_424 w_6 w_421 w_423 s_21 (ma_0 hM) rfl rfl (by decide +kernel) ⟨Nat.le_of_ble_eq_true rfl, Nat.le_of_ble_eq_true rfl⟩ rfl hl.1 rfl (Nat.le_of_ble_eq_true rfl) ⟨Nat.zero_le _, Nat.zero_le _⟩ rfl rfl d_M_create_9 (fun r hr => ?_)
  subst hr
  refine x_fr (pc := 12) [.int (fuF g c0 (mixF (mixF x 1) 2))] rfl rfl ?_
  refine lv_if_lt (tgt := 17) hx hb d_M_create_12 (by decide) (fun c_12 => ?_) (fun c_12 => ?_)
  · refine lv_aload_n hx hb d_M_create_17 rfl (lv_at hl 1 rfl) ?_
    refine x_get (v := .int (q 0 0)) (C := R_M) (T := F_M) (N := 17) hx hb hg i_M hown hK hP (ma_0 hM) rfl 6 (by decide) (hg _ w_360) (fun _ h9 => h9) rfl d_M_create_18 ?_
    refine x_top (y := nI c0) (hs.n.trans hq) ?_
    refine lv_bipush (v := nI 6) hx hb d_M_create_21 (by decide) ?_
    refine x_nc_ne (tgt := 29) hx hb d_M_create_23 (by decide) (by omega) (by omega) (fun c_23 => ?_) (fun c_23 => ?_)
    · refine lv_aload_n hx hb d_M_create_29 rfl (lv_at hl 1 rfl) ?_
      refine x_get (v := .ref (bd 3)) (C := R_M) (T := F_M) (N := 17) hx hb hg i_M hown hK hP (ma_0 hM) rfl 4 (by decide) (hg _ w_358) (fun _ h9 => h9) rfl d_M_create_30 ?_
      refine lv_aload_n hx hb d_M_create_33 rfl (lv_at hl 1 rfl) ?_
      refine x_get (v := .int (q 0 0)) (C := R_M) (T := F_M) (N := 17) hx hb hg i_M hown hK hP (ma_0 hM) rfl 6 (by decide) (hg _ w_360) (fun _ h9 => h9) rfl d_M_create_34 ?_
      refine x_top (y := nI c0) (hs.n.trans hq) ?_
      refine lv_iload_n hx hb d_M_create_37 rfl (lv_at hl 0 rfl) ?_
      refine x_iast hx hb hK hP hS 0 (ma_3 hM) rfl (vp_in_nI (by omega) (by omega)) d_M_create_38 (fun H_186 L_187 hP hS => ?_)
      rw [nI_clamp (by omega)] at hP
      obtain ⟨q_188, hq_188⟩ : ∃ z, z = upQ q 3 (upd (q 3) c0 (mixF (mixF x 1) 2)) := ⟨_, rfl⟩
      obtain ⟨M_189, hP, hR⟩ : ∃ z, xW D classes A z H_186 ∧ mR T bd K N M q_188 z := ⟨_, hP, by rw [hq_188]; exact hR.set (by omega) rfl⟩
      have hM := hR.1
      have hq1 : q_188 0 0 = nI c0 := by rw [hq_188]; exact hs.n.trans hq
      refine lv_aload_n hx hb d_M_create_39 rfl (lv_at hl 1 rfl) ?_
      refine lv_dup hx hb d_M_create_40 rfl ?_
      refine x_get (v := .int (q_188 0 0)) (C := R_M) (T := F_M) (N := 17) hx hb hg i_M hown hK hP (ma_0 hM) rfl 6 (by decide) (hg _ w_360) (fun _ h9 => h9) rfl d_M_create_41 ?_
      refine x_top (y := nI c0) hq1 ?_
      refine lv_iconst (v := nI 1) hx hb d_M_create_44 (by decide) ?_
      refine lv_iadd hx hb d_M_create_45 ?_
      refine x_top (y := nI (c0 + 1)) (nI_add _ _) ?_
      refine x_put (v := .int (nI (c0 + 1))) (ty := .int) (C := R_M) (T := F_M) (N := 17) hx hb hg i_M t_M t_M_ok n_M hown hK hP hS (ma_0 hM) rfl 6 (by decide) (hg _ w_360) (fun _ h9 => h9) rfl (by decide +kernel) rfl rfl (Nat.le_of_ble_eq_true rfl) d_M_create_46 (fun H_190 L_191 hP hS => ?_)
      obtain ⟨q_192, hq_192⟩ : ∃ z, z = upQ q_188 0 (upd (q_188 0) 0 (nI (c0 + 1))) := ⟨_, rfl⟩
      obtain ⟨M_193, hP, hR⟩ : ∃ z, xW D classes A z H_190 ∧ mR T bd K N M q_192 z := ⟨_, hP, by rw [hq_192]; exact hR.set (by omega) rfl⟩
      have hM := hR.1
      have hq2 : q_192 0 0 = nI (c0 + 1) := by rw [hq_192]; rfl
      refine lv_aload_n hx hb d_M_create_49 rfl (lv_at hl 1 rfl) ?_
      refine x_get (v := .int (q_192 0 0)) (C := R_M) (T := F_M) (N := 17) hx hb hg i_M hown hK hP (ma_0 hM) rfl 6 (by decide) (hg _ w_360) (fun _ h9 => h9) rfl d_M_create_50 ?_
      refine x_top (y := nI (c0 + 1)) hq2 ?_
      refine lv_iconst (v := nI 1) hx hb d_M_create_53 (by decide) ?_
      refine lv_isub hx hb d_M_create_54 ?_
      refine x_top (y := nI ((c0 + 1) - 1)) (pk_sub (by omega)) ?_
      exact hret _ _ _ _ _ _ d_M_create_55 hP hS (by rw [aCreate, if_neg (show ¬ 0 ≤ fdF (fun f => g 12 f 0 0) (mixF (mixF x 1) 2) 0 c0 from Int32.not_le.mpr c_12), if_neg (by omega)]; exact ⟨by rw [show c0 + 1 - 1 = c0 by omega], _, hR, by rw [hq_192, hq_188]; exact sM_create hs⟩)
    · refine lv_bipush (v := (-2)) hx hb d_M_create_26 (by decide) ?_
      exact hret _ _ _ _ _ _ d_M_create_28 hP hS (by rw [aCreate, if_neg (show ¬ 0 ≤ fdF (fun f => g 12 f 0 0) (mixF (mixF x 1) 2) 0 c0 from Int32.not_le.mpr c_12), if_pos (by omega)]; exact ⟨rfl, q, hR, hs⟩)
  · refine lv_iconst (v := (-1)) hx hb d_M_create_15 (by decide) ?_
    exact hret _ _ _ _ _ _ d_M_create_16 hP hS (by rw [aCreate, if_pos (show 0 ≤ fdF (fun f => g 12 f 0 0) (mixF (mixF x 1) 2) 0 c0 from Int32.not_lt.mp c_12)]; exact ⟨rfl, q, hR, hs⟩)
set_option maxHeartbeats 4000000 in
set_option maxRecDepth 100000 in
theorem c_M_wipe (l : Launch) (D : va_G) (T : Nat → ClassId) (A : Nat → Prop) (M : xM) (bd : Nat → Nat) (K N : Nat) (q : Nat → Nat → Int32) (hz : zB K N) (hM : mG T bd K N q M) (g : gT) (hs : sM K N g q) (c0 : Nat) (w : Nat → Nat) (hI : iG N g c0 w) (x y : Int32) : Met l y_M_wipe (Cond.code y_M_wipe b_M_wipe 3 (some .int) :: gw) (rmH 1) (xPc D T A M [.ref (bd 0), .int x, .int y]) (xQ D A (fun r M1 => pM T bd K N M (aWipe N g x y) r M1)) 0 0 A := by
  refine xMetQi (by decide) (Nat.le_of_ble_eq_true rfl) ?_
  intro p e s m below meth c Q ls hB hP hS hl hret
  obtain ⟨hx, hb, hml, hown, hg, hK0, hnm⟩ := hB
  have hown : s.vm.findClass "ShareGridModel" = some m.cls := hown
  have hK := hK0.1
  have hN := hK0.2.1
  obtain ⟨hz1, hz4, hzn, hz7⟩ := id hz
  obtain ⟨hq, hq6, hwr, hbo⟩ := id hI
  have hR := hM.rf
  have hl : lv_has ls 3 [(0, .ref (bd 0)), (1, .int x), (2, .int y)] := hl
  refine lv_aload_n hx hb d_M_wipe_0 rfl (lv_at hl 0 rfl) ?_
  refine lv_iload_n hx hb d_M_wipe_1 rfl (lv_at hl 1 rfl) ?_
  refine lv_iload_n hx hb d_M_wipe_2 rfl (lv_at hl 2 rfl) ?_
  refine xv_R (n := 2) (As := [.int x, .int y]) (rest := []) hx hb hml hown hg hK0 hP (c_M_bad l D T A _ bd K N q hz hM g hs c0 w hI x y) w_517 w_6 w_514 w_516 s_35 (ma_0 hM) rfl rfl (by decide +kernel) ⟨Nat.le_of_ble_eq_true rfl, Nat.le_of_ble_eq_true rfl⟩ rfl hl.1 rfl (Nat.le_of_ble_eq_true rfl) ⟨Nat.zero_le _, Nat.zero_le _⟩ rfl rfl d_M_wipe_3 (fun r hr => ?_)
  subst hr
  refine x_fr (pc := 6) [.int (baF N g x y)] rfl rfl ?_
  refine lv_if_eq (tgt := 11) hx hb d_M_wipe_6 (by decide) (fun c_6 => ?_) (fun c_6 => ?_)
  · obtain ⟨c5, c13⟩ := baF_0 (show baF N g x y = 0 from c_6)
    have c8 := c5
    rw [hq] at c8
    obtain ⟨f, hf, rfl⟩ := inF_j (by omega) c8
    obtain ⟨i, hi, rfl⟩ := inF_j (by omega) c13
    have ef : (nI f).toNatClampNeg = f := nI_clamp (by omega)
    have ei : (nI i).toNatClampNeg = i := nI_clamp (by omega)
    obtain ⟨t8, t0, t1, t2, t3⟩ := id (hs.rc (f := f) (s := i) (by omega) hi)
    obtain ⟨p8, p0, p1, p2, p3⟩ := id (hs.pi (f := f) (s := i) (by omega) hi)
    refine lv_aload_n hx hb d_M_wipe_11 rfl (lv_at hl 0 rfl) ?_
    refine x_get (v := .ref (bd 8)) (C := R_M) (T := F_M) (N := 17) hx hb hg i_M hown hK hP (ma_0 hM) rfl 10 (by decide) (hg _ w_364) (fun _ h9 => h9) rfl d_M_wipe_12 ?_
    refine lv_iload_n hx hb d_M_wipe_15 rfl (lv_at hl 1 rfl) ?_
    refine lv_bipush (v := nI 7) hx hb d_M_wipe_16 (by decide) ?_
    refine lv_imul hx hb d_M_wipe_18 ?_
    refine x_top (y := nI (f * 7)) (pk_mul _ _) ?_
    refine lv_iload_n hx hb d_M_wipe_19 rfl (lv_at hl 2 rfl) ?_
    refine lv_iadd hx hb d_M_wipe_20 ?_
    refine x_top (y := nI ((f * 7) + i)) (nI_add _ _) ?_
    refine lv_iconst (v := 0) hx hb d_M_wipe_21 (by decide) ?_
    refine x_zast hx hb hK hP hS 1 (ma_8 hM) rfl (vp_in_nI (by omega) (by omega)) d_M_wipe_22 (fun H_194 L_195 hP hS => ?_)
    rw [show vp_nar .boolean 0 = 0 from by rfl] at hP
    rw [nI_clamp (by omega)] at hP
    obtain ⟨q_196, hq_196⟩ : ∃ z, z = upQ q 8 (upd (q 8) ((f * 7) + i) 0) := ⟨_, rfl⟩
    obtain ⟨M_197, hP, hR⟩ : ∃ z, xW D classes A z H_194 ∧ mR T bd K N M q_196 z := ⟨_, hP, by rw [hq_196]; exact hR.set (by omega) rfl⟩
    have hM := hR.1
    refine lv_iconst (v := nI 0) hx hb d_M_wipe_23 (by decide) ?_
    refine hret _ _ _ _ _ _ d_M_wipe_24 hP hS (by
      rw [aWipe, if_neg c5, if_neg c13, ef, ei]
      refine ⟨rfl, _, hR, ?_⟩
      dsimp only
      refine sM_rec hs (f := f) (s := i) (by omega) hi hz7 (fun k f1 s1 z => upS_n (by omega)) (fun k z1 z2 => by rw [hq_196, upQ_n (by omega)]) (fun a z => by rw [hq_196, upQ_s, upd_n z]) (fun a b z zb => by rw [hq_196, upQ_n (by omega)]) ?_
      rw [upS_s, upS_n (by omega), hq_196]
      exact ⟨by rw [upQ_s, upd_s, upd_s], t0, t1, t2, t3⟩)
  · refine lv_iconst (v := (-1)) hx hb d_M_wipe_9 (by decide) ?_
    exact hret _ _ _ _ _ _ d_M_wipe_10 hP hS (by
      rcases baF_1 (show ¬ baF N g x y = 0 from c_6) with h | ⟨h, h1⟩
      · rw [aWipe, if_pos h]; exact ⟨rfl, q, hR, hs⟩
      · rw [aWipe, if_neg h, if_pos h1]; exact ⟨rfl, q, hR, hs⟩)
set_option maxHeartbeats 4000000 in
set_option maxRecDepth 100000 in
theorem c_M_tamper (l : Launch) (D : va_G) (T : Nat → ClassId) (A : Nat → Prop) (M : xM) (bd : Nat → Nat) (K N : Nat) (q : Nat → Nat → Int32) (hz : zB K N) (hM : mG T bd K N q M) (g : gT) (hs : sM K N g q) (c0 : Nat) (w : Nat → Nat) (hI : iG N g c0 w) (x y z u : Int32) : Met l y_M_tamper (Cond.code y_M_tamper b_M_tamper 5 (some .int) :: gw) (rmH 1) (xPc D T A M [.ref (bd 0), .int x, .int y, .int z, .int u]) (xQ D A (fun r M1 => pM T bd K N M (aTamper N g x y z u) r M1)) 0 0 A := by
  refine xMetQi (by decide) (Nat.le_of_ble_eq_true rfl) ?_
  intro p e s m below meth c Q ls hB hP hS hl hret
  obtain ⟨hx, hb, hml, hown, hg, hK0, hnm⟩ := hB
  have hown : s.vm.findClass "ShareGridModel" = some m.cls := hown
  have hK := hK0.1
  have hN := hK0.2.1
  obtain ⟨hz1, hz4, hzn, hz7⟩ := id hz
  obtain ⟨hq, hq6, hwr, hbo⟩ := id hI
  have hR := hM.rf
  have hl : lv_has ls 5 [(0, .ref (bd 0)), (1, .int x), (2, .int y), (3, .int z), (4, .int u)] := hl
  refine lv_aload_n hx hb d_M_tamper_0 rfl (lv_at hl 0 rfl) ?_
  refine lv_iload_n hx hb d_M_tamper_1 rfl (lv_at hl 1 rfl) ?_
  refine lv_iload_n hx hb d_M_tamper_2 rfl (lv_at hl 2 rfl) ?_
  refine xv_R (n := 2) (As := [.int x, .int y]) (rest := []) hx hb hml hown hg hK0 hP (c_M_bad l D T A _ bd K N q hz hM g hs c0 w hI x y) w_517 w_6 w_514 w_516 s_35 (ma_0 hM) rfl rfl (by decide +kernel) ⟨Nat.le_of_ble_eq_true rfl, Nat.le_of_ble_eq_true rfl⟩ rfl hl.1 rfl (Nat.le_of_ble_eq_true rfl) ⟨Nat.zero_le _, Nat.zero_le _⟩ rfl rfl d_M_tamper_3 (fun r hr => ?_)
  subst hr
  refine x_fr (pc := 6) [.int (baF N g x y)] rfl rfl ?_
  refine lv_if_ne (tgt := 37) hx hb d_M_tamper_6 (by decide) (fun c_6 => ?_) (fun c_6 => ?_)
  · refine lv_iconst (v := (-1)) hx hb d_M_tamper_37 (by decide) ?_
    exact hret _ _ _ _ _ _ d_M_tamper_38 hP hS (by
      rcases baF_1 (show ¬ baF N g x y = 0 from c_6) with h | ⟨h, h1⟩
      · rw [aTamper, if_pos h]; exact ⟨rfl, q, hR, hs⟩
      · rw [aTamper, if_neg h, if_pos h1]; exact ⟨rfl, q, hR, hs⟩)
  · obtain ⟨c5, c13⟩ := baF_0 (show baF N g x y = 0 from c_6)
    have c8 := c5
    rw [hq] at c8
    obtain ⟨f, hf, rfl⟩ := inF_j (by omega) c8
    obtain ⟨i, hi, rfl⟩ := inF_j (by omega) c13
    have ef : (nI f).toNatClampNeg = f := nI_clamp (by omega)
    have ei : (nI i).toNatClampNeg = i := nI_clamp (by omega)
    obtain ⟨t8, t0, t1, t2, t3⟩ := id (hs.rc (f := f) (s := i) (by omega) hi)
    obtain ⟨p8, p0, p1, p2, p3⟩ := id (hs.pi (f := f) (s := i) (by omega) hi)
    refine lv_iload_n hx hb d_M_tamper_9 rfl (lv_at hl 3 rfl) ?_
    refine lv_if_lt (tgt := 37) hx hb d_M_tamper_10 (by decide) (fun c_10 => ?_) (fun c_10 => ?_)
    · refine lv_iconst (v := (-1)) hx hb d_M_tamper_37 (by decide) ?_
      exact hret _ _ _ _ _ _ d_M_tamper_38 hP hS (by rw [aTamper, if_neg c5, if_neg c13, if_pos c_10]; exact ⟨rfl, q, hR, hs⟩)
    · refine lv_iload_n hx hb d_M_tamper_13 rfl (lv_at hl 3 rfl) ?_
      refine lv_iconst (v := nI 2) hx hb d_M_tamper_14 (by decide) ?_
      refine lv_aload_n hx hb d_M_tamper_15 rfl (lv_at hl 0 rfl) ?_
      refine x_get (v := .int (nI N)) (C := R_M) (T := F_M) (N := 17) hx hb hg i_M hown hK hP (ma_0 hM) rfl 1 (by decide) (hg _ w_355) (fun _ h9 => h9) rfl d_M_tamper_16 ?_
      refine lv_iadd hx hb d_M_tamper_19 ?_
      refine x_top (y := nI (2 + N)) (nI_add _ _) ?_
      refine lv_icmp_gt (tgt := 37) hx hb d_M_tamper_20 (by decide) (fun c_20 => ?_) (fun c_20 => ?_)
      · refine lv_iconst (v := (-1)) hx hb d_M_tamper_37 (by decide) ?_
        have hzl : ¬ z < nI (3 + N) := by
          obtain ⟨j, hj, rfl⟩ := nI_of c_10
          have := (nI_ltI (a := 2 + N) (by omega) hj).mp c_20
          exact fun q => by have := (nI_ltI hj (by omega)).mp q; omega
        exact hret _ _ _ _ _ _ d_M_tamper_38 hP hS (by rw [aTamper, if_neg c5, if_neg c13, if_neg c_10, if_neg hzl]; exact ⟨rfl, q, hR, hs⟩)
      · refine lv_aload_n hx hb d_M_tamper_23 rfl (lv_at hl 0 rfl) ?_
        refine x_get (v := .ref (bd 8)) (C := R_M) (T := F_M) (N := 17) hx hb hg i_M hown hK hP (ma_0 hM) rfl 10 (by decide) (hg _ w_364) (fun _ h9 => h9) rfl d_M_tamper_24 ?_
        refine lv_iload_n hx hb d_M_tamper_27 rfl (lv_at hl 1 rfl) ?_
        refine lv_bipush (v := nI 7) hx hb d_M_tamper_28 (by decide) ?_
        refine lv_imul hx hb d_M_tamper_30 ?_
        refine x_top (y := nI (f * 7)) (pk_mul _ _) ?_
        refine lv_iload_n hx hb d_M_tamper_31 rfl (lv_at hl 2 rfl) ?_
        refine lv_iadd hx hb d_M_tamper_32 ?_
        refine x_top (y := nI ((f * 7) + i)) (nI_add _ _) ?_
        refine x_zald (v := q 8 ((f * 7) + i)) hx hb hK hP 1 (ma_8 hM) rfl (vp_in_nI (by omega) (by omega)) (by rw [nI_clamp (by omega)]) d_M_tamper_33 ?_
        refine x_top (y := (g 17 f i 0)) t8 ?_
        refine lv_if_ne (tgt := 39) hx hb d_M_tamper_34 (by decide) (fun c_34 => ?_) (fun c_34 => ?_)
        · obtain ⟨j, hjN, hj⟩ : ∃ j : Nat, j < 3 + N ∧ z = nI j := by
            obtain ⟨j, hj, rfl⟩ := nI_of c_10
            have := (nI_leI hj (b := 2 + N) (by omega)).mp (Int32.not_lt.mp c_20)
            exact ⟨j, by omega, rfl⟩
          rw [hj] at hl
          refine lv_aload_n hx hb d_M_tamper_39 rfl (lv_at hl 0 rfl) ?_
          refine x_get (v := .ref (bd 7)) (C := R_M) (T := F_M) (N := 17) hx hb hg i_M hown hK hP (ma_0 hM) rfl 9 (by decide) (hg _ w_363) (fun _ h9 => h9) rfl d_M_tamper_40 ?_
          refine lv_iload_n hx hb d_M_tamper_43 rfl (lv_at hl 1 rfl) ?_
          refine lv_bipush (v := nI 70) hx hb d_M_tamper_44 (by decide) ?_
          refine lv_imul hx hb d_M_tamper_46 ?_
          refine x_top (y := nI (f * 70)) (pk_mul _ _) ?_
          refine lv_iload_n hx hb d_M_tamper_47 rfl (lv_at hl 2 rfl) ?_
          refine lv_bipush (v := nI 10) hx hb d_M_tamper_48 (by decide) ?_
          refine lv_imul hx hb d_M_tamper_50 ?_
          refine x_top (y := nI (i * 10)) (pk_mul _ _) ?_
          refine lv_iadd hx hb d_M_tamper_51 ?_
          refine x_top (y := nI ((f * 70) + (i * 10))) (nI_add _ _) ?_
          refine lv_iload_n hx hb d_M_tamper_52 rfl (lv_at hl 3 rfl) ?_
          refine lv_iadd hx hb d_M_tamper_53 ?_
          refine x_top (y := nI (((f * 70) + (i * 10)) + j)) (nI_add _ _) ?_
          refine lv_dup2_11 hx hb d_M_tamper_54 rfl rfl ?_
          refine x_iald (v := q 7 (((f * 70) + (i * 10)) + j)) hx hb hK hP 0 (ma_7 hM) rfl (vp_in_nI (by omega) (by omega)) (by rw [nI_clamp (by omega)]) d_M_tamper_55 ?_
          refine lv_iload hx hb d_M_tamper_56 (lv_at hl 4 rfl) ?_
          refine lv_ixor hx hb d_M_tamper_58 ?_
          refine x_iast hx hb hK hP hS 0 (ma_7 hM) rfl (vp_in_nI (by omega) (by omega)) d_M_tamper_59 (fun H_198 L_199 hP hS => ?_)
          rw [nI_clamp (by omega)] at hP
          obtain ⟨q_200, hq_200⟩ : ∃ z, z = upQ q 7 (upd (q 7) (((f * 70) + (i * 10)) + j) ((q 7 (((f * 70) + (i * 10)) + j)) ^^^ u)) := ⟨_, rfl⟩
          obtain ⟨M_201, hP, hR⟩ : ∃ z, xW D classes A z H_198 ∧ mR T bd K N M q_200 z := ⟨_, hP, by rw [hq_200]; exact hR.set (by omega) rfl⟩
          have hM := hR.1
          refine lv_iconst (v := nI 0) hx hb d_M_tamper_60 (by decide) ?_
          have hzl : z < nI (3 + N) := by rw [hj]; exact (nI_ltI (by omega) (by omega)).mpr hjN
          have e1 : aTamper N g (nI f) (nI i) z u = (0, tmG g f i z u) := by rw [aTamper, if_neg c5, if_neg c13, if_neg c_10, if_pos hzl, ef, ei, if_neg c_34]
          have eix : f * 70 + i * 10 + j = (f * 7 + i) * 10 + j := by omega
          rw [eix] at hq_200
          refine hret _ _ _ _ _ _ d_M_tamper_61 hP hS (by
            rw [e1]
            refine ⟨rfl, _, hR, ?_⟩
            dsimp only
            have hq7 : ∀ k, k ≠ 7 → k ≠ 8 → q_200 k = q k := fun k z1 z2 => by rw [hq_200, upQ_n z1]
            have hq8 : ∀ a, a ≠ f * 7 + i → q_200 8 a = q 8 a := fun a _ => by rw [hq_200, upQ_n (by omega)]
            have hr7 : ∀ a b, a ≠ f * 7 + i → b < 10 → q_200 7 (a * 10 + b) = q 7 (a * 10 + b) := fun a b z1 z2 => by rw [hq_200, upQ_s, upd_n (by omega)]
            have rr := hs.rc (f := f) (s := i) (by omega) hi
            rcases (show j = 0 ∨ j = 1 ∨ j = 2 ∨ 3 ≤ j by omega) with rfl | rfl | rfl | h3
            · rw [show tmG g f i z u = upS g 17 f i (upd (g 17 f i) 1 (g 17 f i 1 ^^^ u)) by rw [tmG, if_pos (show z = 0 by rw [hj]; decide)]]
              refine sM_rec hs (f := f) (s := i) (by omega) hi hz7 (fun k f1 s1 z => upS_n (by omega)) hq7 hq8 hr7 ?_
              rw [upS_s, upS_n (by omega), hq_200]
              have ev : q 7 ((f * 7 + i) * 10 + 0) = g 17 f i 1 := t0
              rw [ev]
              exact rwS_7 rr hz7 (by omega) (by rw [upd_n (by omega)]) (by rw [upd_s]; rfl) (by rw [upd_n (by omega)]; rfl) (by rw [upd_n (by omega)]; rfl) (fun j hj => by rw [if_neg (by omega)])
            · rw [show tmG g f i z u = upS g 17 f i (upd (g 17 f i) 2 (g 17 f i 2 ^^^ u)) by rw [tmG, if_neg (show ¬ z = 0 by rw [hj]; decide), if_pos (show z = 1 by rw [hj]; decide)]]
              refine sM_rec hs (f := f) (s := i) (by omega) hi hz7 (fun k f1 s1 z => upS_n (by omega)) hq7 hq8 hr7 ?_
              rw [upS_s, upS_n (by omega), hq_200]
              have ev : q 7 ((f * 7 + i) * 10 + 1) = g 17 f i 2 := t1
              rw [ev]
              exact rwS_7 rr hz7 (by omega) (by rw [upd_n (by omega)]) (by rw [upd_n (by omega)]; rfl) (by rw [upd_s]; rfl) (by rw [upd_n (by omega)]; rfl) (fun j hj => by rw [if_neg (by omega)])
            · rw [show tmG g f i z u = upS g 17 f i (upd (g 17 f i) 3 (g 17 f i 3 ^^^ u)) by rw [tmG, if_neg (show ¬ z = 0 by rw [hj]; decide), if_neg (show ¬ z = 1 by rw [hj]; decide), if_pos (show z = 2 by rw [hj]; decide)]]
              refine sM_rec hs (f := f) (s := i) (by omega) hi hz7 (fun k f1 s1 z => upS_n (by omega)) hq7 hq8 hr7 ?_
              rw [upS_s, upS_n (by omega), hq_200]
              have ev : q 7 ((f * 7 + i) * 10 + 2) = g 17 f i 3 := t2
              rw [ev]
              exact rwS_7 rr hz7 (by omega) (by rw [upd_n (by omega)]) (by rw [upd_n (by omega)]; rfl) (by rw [upd_n (by omega)]; rfl) (by rw [upd_s]; rfl) (fun j hj => by rw [if_neg (by omega)])
            · rw [show tmG g f i z u = upS g 18 f i (upd (g 18 f i) (j - 3) (g 18 f i (j - 3) ^^^ u)) by rw [tmG, if_neg (fun h => by have := (nI_eq (b := 0) (by omega) (by omega)).mp (hj.symm.trans h); omega), if_neg (fun h => by have := (nI_eq (b := 1) (by omega) (by omega)).mp (hj.symm.trans h); omega), if_neg (fun h => by have := (nI_eq (b := 2) (by omega) (by omega)).mp (hj.symm.trans h); omega), hj, nI_clamp (by omega)]]
              refine sM_rec hs (f := f) (s := i) (by omega) hi hz7 (fun k f1 s1 z => upS_n (by omega)) hq7 hq8 hr7 ?_
              rw [upS_n (by omega), upS_s, hq_200]
              have ev : q 7 ((f * 7 + i) * 10 + j) = g 18 f i (j - 3) := by have := t3 (j - 3) (by omega); rw [show (f * 7 + i) * 10 + 3 + (j - 3) = (f * 7 + i) * 10 + j by omega] at this; exact this
              rw [ev]
              exact rwS_7 rr hz7 (by omega) rfl (by rw [if_neg (by omega)]) (by rw [if_neg (by omega)]) (by rw [if_neg (by omega)]) (fun k hk => by
                by_cases e : k = j - 3
                · subst e; rw [upd_s, if_pos (by omega)]
                · rw [upd_n e, if_neg (by omega)]))
        · refine lv_iconst (v := (-1)) hx hb d_M_tamper_37 (by decide) ?_
          have hzl : z < nI (3 + N) := by
            obtain ⟨j, hj, rfl⟩ := nI_of c_10
            have := (nI_leI hj (b := 2 + N) (by omega)).mp (Int32.not_lt.mp c_20)
            exact (nI_ltI (by omega) (by omega)).mpr (by omega)
          exact hret _ _ _ _ _ _ d_M_tamper_38 hP hS (by rw [aTamper, if_neg c5, if_neg c13, if_neg c_10, if_pos hzl, ef, ei, if_pos c_34]; exact ⟨rfl, q, hR, hs⟩)
set_option maxHeartbeats 4000000 in
set_option maxRecDepth 100000 in
theorem c_M_copyRow (l : Launch) (D : va_G) (T : Nat → ClassId) (A : Nat → Prop) (M : xM) (bd : Nat → Nat) (K N : Nat) (q : Nat → Nat → Int32) (hz : zB K N) (hM : mG T bd K N q M) (u v : Nat) (hu : u < 84) (hv : v < 84) (huv : u ≠ v) (hb8 : q 8 u = 0 ∨ q 8 u = 1) : Met l y_M_copyRow (Cond.code y_M_copyRow b_M_copyRow 4 none :: gw) (rmH 0) (xPc D T A M [.ref (bd 0), .int (nI u), .int (nI v)]) (xQ D A (fun r M1 => r = none ∧ ∃ q', mR T bd K N M q' M1 ∧ (∀ k, k ≠ 7 → k ≠ 8 → q' k = q k) ∧ q' 8 = upd (q 8) v (q 8 u) ∧ (∀ b, b < 10 → q' 7 (v * 10 + b) = q 7 (u * 10 + b)) ∧ ∀ a b, a ≠ v → b < 10 → q' 7 (a * 10 + b) = q 7 (a * 10 + b))) 0 0 A := by
  refine xMetQv (by decide) (Nat.le_of_ble_eq_true rfl) ?_
  intro p e s m below meth c Q ls hB hP hS hl hret
  obtain ⟨hx, hb, hml, hown, hg, hK0, hnm⟩ := hB
  have hown : s.vm.findClass "ShareGridModel" = some m.cls := hown
  have hK := hK0.1
  have hN := hK0.2.1
  obtain ⟨hz1, hz4, hzn, hz7⟩ := id hz
  have hR := hM.rf
  have hl : lv_has ls 4 [(0, .ref (bd 0)), (1, .int (nI u)), (2, .int (nI v))] := hl
  refine lv_aload_n hx hb d_M_copyRow_0 rfl (lv_at hl 0 rfl) ?_
  refine x_get (v := .ref (bd 8)) (C := R_M) (T := F_M) (N := 17) hx hb hg i_M hown hK hP (ma_0 hM) rfl 10 (by decide) (hg _ w_364) (fun _ h9 => h9) rfl d_M_copyRow_1 ?_
  refine lv_iload_n hx hb d_M_copyRow_4 rfl (lv_at hl 2 rfl) ?_
  refine lv_aload_n hx hb d_M_copyRow_5 rfl (lv_at hl 0 rfl) ?_
  refine x_get (v := .ref (bd 8)) (C := R_M) (T := F_M) (N := 17) hx hb hg i_M hown hK hP (ma_0 hM) rfl 10 (by decide) (hg _ w_364) (fun _ h9 => h9) rfl d_M_copyRow_6 ?_
  refine lv_iload_n hx hb d_M_copyRow_9 rfl (lv_at hl 1 rfl) ?_
  refine x_zald (v := q 8 u) hx hb hK hP 1 (ma_8 hM) rfl (vp_in_nI (by omega) (by omega)) (by rw [nI_clamp (by omega)]) d_M_copyRow_10 ?_
  refine x_zast hx hb hK hP hS 1 (ma_8 hM) rfl (vp_in_nI (by omega) (by omega)) d_M_copyRow_11 (fun H_202 L_203 hP hS => ?_)
  rw [show vp_nar .boolean (q 8 u) = q 8 u from by rcases hb8 with h | h <;> rw [h] <;> rfl] at hP
  rw [nI_clamp (by omega)] at hP
  obtain ⟨q_204, hq_204⟩ : ∃ z, z = upQ q 8 (upd (q 8) v (q 8 u)) := ⟨_, rfl⟩
  obtain ⟨M_205, hP, hR⟩ : ∃ z, xW D classes A z H_202 ∧ mR T bd K N M q_204 z := ⟨_, hP, by rw [hq_204]; exact hR.set (by omega) rfl⟩
  have hM := hR.1
  refine lv_iconst (v := nI 0) hx hb d_M_copyRow_12 (by decide) ?_
  refine lv_istore_n (lv' := [(3, .int (nI 0)), (0, .ref (bd 0)), (1, .int (nI u)), (2, .int (nI v))]) hx hb d_M_copyRow_13 rfl hl (by decide) rfl (fun ls hl => ?_)
  have loop : ∀ (n : Nat) (i : Nat) (qx : qT), 11 ≤ i + n → i ≤ 10 → (∀ k, k ≠ 7 → k ≠ 8 → qx k = q k) → qx 8 = upd (q 8) v (q 8 u) → (∀ b, b < i → qx 7 (v * 10 + b) = q 7 (u * 10 + b)) → (∀ a b, a ≠ v → b < 10 → qx 7 (a * 10 + b) = q 7 (a * 10 + b)) → ∀ (Mx : xM) (Hx : Heap) (Lx : List Loc), xW D classes A Mx Hx → va_S A s.heap Hx Lx → mR T bd K N M qx Mx → ∀ (ls : Array Slot), lv_has ls 4 [(0, .ref (bd 0)), (1, .int (nI u)), (2, .int (nI v)), (3, .int (nI i))] → W p l e (rmH 0) s m [.ref (bd 0), .int (nI u), .int (nI v)].toArray below meth c Hx Lx 0 0 Q (F0 m 14 ls []) := by
    intro n
    induction n with
    | zero =>
      intro i qx h2 h1 r1 r2 r3 r4
      exact absurd h2 (by omega)
    | succ n ih =>
      intro i qx h2 h1 r1 r2 r3 r4 Mx Hx Lx hP hS hR ls hl
      have hM := hR.1
      refine lv_iload_n hx hb d_M_copyRow_14 rfl (lv_at hl 3 rfl) ?_
      refine lv_bipush (v := nI 10) hx hb d_M_copyRow_15 (by decide) ?_
      refine x_nc_ge (tgt := 48) hx hb d_M_copyRow_17 (by decide) (by omega) (by omega) (fun c1 => ?_) (fun c1 => ?_)
      · have hi10 : i = 10 := by omega
        exact hret _ _ _ _ _ d_M_copyRow_48 hP hS ⟨rfl, qx, hR, r1, r2, fun b hb => r3 b (by omega), r4⟩
      · refine lv_aload_n hx hb d_M_copyRow_20 rfl (lv_at hl 0 rfl) ?_
        refine x_get (v := .ref (bd 7)) (C := R_M) (T := F_M) (N := 17) hx hb hg i_M hown hK hP (ma_0 hM) rfl 9 (by decide) (hg _ w_363) (fun _ h9 => h9) rfl d_M_copyRow_21 ?_
        refine lv_iload_n hx hb d_M_copyRow_24 rfl (lv_at hl 2 rfl) ?_
        refine lv_bipush (v := nI 10) hx hb d_M_copyRow_25 (by decide) ?_
        refine lv_imul hx hb d_M_copyRow_27 ?_
        refine x_top (y := nI (v * 10)) (pk_mul _ _) ?_
        refine lv_iload_n hx hb d_M_copyRow_28 rfl (lv_at hl 3 rfl) ?_
        refine lv_iadd hx hb d_M_copyRow_29 ?_
        refine x_top (y := nI ((v * 10) + i)) (nI_add _ _) ?_
        refine lv_aload_n hx hb d_M_copyRow_30 rfl (lv_at hl 0 rfl) ?_
        refine x_get (v := .ref (bd 7)) (C := R_M) (T := F_M) (N := 17) hx hb hg i_M hown hK hP (ma_0 hM) rfl 9 (by decide) (hg _ w_363) (fun _ h9 => h9) rfl d_M_copyRow_31 ?_
        refine lv_iload_n hx hb d_M_copyRow_34 rfl (lv_at hl 1 rfl) ?_
        refine lv_bipush (v := nI 10) hx hb d_M_copyRow_35 (by decide) ?_
        refine lv_imul hx hb d_M_copyRow_37 ?_
        refine x_top (y := nI (u * 10)) (pk_mul _ _) ?_
        refine lv_iload_n hx hb d_M_copyRow_38 rfl (lv_at hl 3 rfl) ?_
        refine lv_iadd hx hb d_M_copyRow_39 ?_
        refine x_top (y := nI ((u * 10) + i)) (nI_add _ _) ?_
        refine x_iald (v := qx 7 ((u * 10) + i)) hx hb hK hP 0 (ma_7 hM) rfl (vp_in_nI (by omega) (by omega)) (by rw [nI_clamp (by omega)]) d_M_copyRow_40 ?_
        refine x_iast hx hb hK hP hS 0 (ma_7 hM) rfl (vp_in_nI (by omega) (by omega)) d_M_copyRow_41 (fun H_206 L_207 hP hS => ?_)
        rw [nI_clamp (by omega)] at hP
        obtain ⟨q_208, hq_208⟩ : ∃ z, z = upQ qx 7 (upd (qx 7) ((v * 10) + i) (qx 7 ((u * 10) + i))) := ⟨_, rfl⟩
        obtain ⟨M_209, hP, hR⟩ : ∃ z, xW D classes A z H_206 ∧ mR T bd K N M q_208 z := ⟨_, hP, by rw [hq_208]; exact hR.set (by omega) rfl⟩
        have hM := hR.1
        have ra : ∀ k, k ≠ 7 → k ≠ 8 → q_208 k = q k := fun k z1 z2 => by rw [hq_208, upQ_n z1]; exact r1 k z1 z2
        have rb : q_208 8 = upd (q 8) v (q 8 u) := by rw [hq_208, upQ_n (by omega)]; exact r2
        have rc : ∀ b, b < i + 1 → q_208 7 (v * 10 + b) = q 7 (u * 10 + b) := by
          intro b hb
          rw [hq_208, upQ_s]
          by_cases e : b = i
          · subst e; rw [upd_s]; exact r4 u b huv (by omega)
          · rw [upd_n (by omega)]; exact r3 b (by omega)
        have rd : ∀ a b, a ≠ v → b < 10 → q_208 7 (a * 10 + b) = q 7 (a * 10 + b) := fun a b z1 z2 => by rw [hq_208, upQ_s, upd_n (by omega)]; exact r4 a b z1 z2
        refine lv_iinc (v := nI (i + 1)) (lv' := [(3, .int (nI (i + 1))), (0, .ref (bd 0)), (1, .int (nI u)), (2, .int (nI v))]) hx hb d_M_copyRow_42 hl (k := 3) rfl (nI_1 _) (by decide) rfl (fun ls hl => ?_)
        refine lv_goto (tgt := 14) hx hb d_M_copyRow_45 (by decide) ?_
        exact ih (i + 1) q_208 (by omega) (by omega) ra rb rc rd _ _ _ hP hS hR ls (lv_sub hl [1, 2, 3, 0] rfl)
  exact loop 11 0 q_204 (by omega) (by omega) (fun k z1 z2 => by rw [hq_204, upQ_n z2]) (by rw [hq_204, upQ_s]) (fun b hb => absurd hb (by omega)) (fun a b z1 z2 => by rw [hq_204, upQ_n (by omega)]) _ _ _ hP hS hR ls (lv_sub hl [1, 2, 3, 0] rfl)
/-- a row that was copied -/
theorem rwS_cp {N u v : Nat} {q q' : qT} {x y : Nat → Int32} (hN : N ≤ 7) (h : rwS N q u x y) (k2 : q' 8 = upd (q 8) v (q 8 u)) (k3 : ∀ b, b < 10 → q' 7 (v * 10 + b) = q 7 (u * 10 + b)) : rwS N q' v x y := by
  obtain ⟨b1, b2, b3, b4, b5⟩ := h
  refine ⟨by rw [k2, upd_s]; exact b1, ?_, (k3 1 (by omega)).trans b3, (k3 2 (by omega)).trans b4, fun j hj => ?_⟩
  · have := k3 0 (by omega); rw [Nat.add_zero, Nat.add_zero] at this; exact this.trans b2
  · have := k3 (3 + j) (by omega); rw [← Nat.add_assoc, ← Nat.add_assoc] at this; exact this.trans (b5 j hj)
set_option maxHeartbeats 4000000 in
set_option maxRecDepth 100000 in
theorem c_M_picture (l : Launch) (D : va_G) (T : Nat → ClassId) (A : Nat → Prop) (M : xM) (bd : Nat → Nat) (K N : Nat) (q : Nat → Nat → Int32) (hz : zB K N) (hM : mG T bd K N q M) (g : gT) (hs : sM K N g q) (c0 : Nat) (w : Nat → Nat) (hI : iG N g c0 w) (x y : Int32) : Met l y_M_picture (Cond.code y_M_picture b_M_picture 3 (some .int) :: gw) (rmH 1) (xPc D T A M [.ref (bd 0), .int x, .int y]) (xQ D A (fun r M1 => pM T bd K N M (aPicture N g x y) r M1)) 0 0 A := by
  refine xMetQi (by decide) (Nat.le_of_ble_eq_true rfl) ?_
  intro p e s m below meth c Q ls hB hP hS hl hret
  obtain ⟨hx, hb, hml, hown, hg, hK0, hnm⟩ := hB
  have hown : s.vm.findClass "ShareGridModel" = some m.cls := hown
  have hK := hK0.1
  have hN := hK0.2.1
  obtain ⟨hz1, hz4, hzn, hz7⟩ := id hz
  obtain ⟨hq, hq6, hwr, hbo⟩ := id hI
  have hR := hM.rf
  have hl : lv_has ls 3 [(0, .ref (bd 0)), (1, .int x), (2, .int y)] := hl
  refine lv_aload_n hx hb d_M_picture_0 rfl (lv_at hl 0 rfl) ?_
  refine lv_iload_n hx hb d_M_picture_1 rfl (lv_at hl 1 rfl) ?_
  refine lv_iload_n hx hb d_M_picture_2 rfl (lv_at hl 2 rfl) ?_
  refine xv_R (n := 2) (As := [.int x, .int y]) (rest := []) hx hb hml hown hg hK0 hP (c_M_bad l D T A _ bd K N q hz hM g hs c0 w hI x y) w_517 w_6 w_514 w_516 s_35 (ma_0 hM) rfl rfl (by decide +kernel) ⟨Nat.le_of_ble_eq_true rfl, Nat.le_of_ble_eq_true rfl⟩ rfl hl.1 rfl (Nat.le_of_ble_eq_true rfl) ⟨Nat.zero_le _, Nat.zero_le _⟩ rfl rfl d_M_picture_3 (fun r hr => ?_)
  subst hr
  refine x_fr (pc := 6) [.int (baF N g x y)] rfl rfl ?_
  refine lv_if_ne (tgt := 23) hx hb d_M_picture_6 (by decide) (fun c_6 => ?_) (fun c_6 => ?_)
  · refine lv_iconst (v := (-1)) hx hb d_M_picture_23 (by decide) ?_
    exact hret _ _ _ _ _ _ d_M_picture_24 hP hS (by
      rcases baF_1 (show ¬ baF N g x y = 0 from c_6) with h | ⟨h, h1⟩
      · rw [aPicture, if_pos h]; exact ⟨rfl, q, hR, hs⟩
      · rw [aPicture, if_neg h, if_pos h1]; exact ⟨rfl, q, hR, hs⟩)
  · obtain ⟨c5, c13⟩ := baF_0 (show baF N g x y = 0 from c_6)
    have c8 := c5
    rw [hq] at c8
    obtain ⟨f, hf, rfl⟩ := inF_j (by omega) c8
    obtain ⟨i, hi, rfl⟩ := inF_j (by omega) c13
    have ef : (nI f).toNatClampNeg = f := nI_clamp (by omega)
    have ei : (nI i).toNatClampNeg = i := nI_clamp (by omega)
    obtain ⟨t8, t0, t1, t2, t3⟩ := id (hs.rc (f := f) (s := i) (by omega) hi)
    obtain ⟨p8, p0, p1, p2, p3⟩ := id (hs.pi (f := f) (s := i) (by omega) hi)
    refine lv_aload_n hx hb d_M_picture_9 rfl (lv_at hl 0 rfl) ?_
    refine x_get (v := .ref (bd 8)) (C := R_M) (T := F_M) (N := 17) hx hb hg i_M hown hK hP (ma_0 hM) rfl 10 (by decide) (hg _ w_364) (fun _ h9 => h9) rfl d_M_picture_10 ?_
    refine lv_iload_n hx hb d_M_picture_13 rfl (lv_at hl 1 rfl) ?_
    refine lv_bipush (v := nI 7) hx hb d_M_picture_14 (by decide) ?_
    refine lv_imul hx hb d_M_picture_16 ?_
    refine x_top (y := nI (f * 7)) (pk_mul _ _) ?_
    refine lv_iload_n hx hb d_M_picture_17 rfl (lv_at hl 2 rfl) ?_
    refine lv_iadd hx hb d_M_picture_18 ?_
    refine x_top (y := nI ((f * 7) + i)) (nI_add _ _) ?_
    refine x_zald (v := q 8 ((f * 7) + i)) hx hb hK hP 1 (ma_8 hM) rfl (vp_in_nI (by omega) (by omega)) (by rw [nI_clamp (by omega)]) d_M_picture_19 ?_
    refine x_top (y := (g 17 f i 0)) t8 ?_
    refine lv_if_ne (tgt := 25) hx hb d_M_picture_20 (by decide) (fun c_20 => ?_) (fun c_20 => ?_)
    · refine lv_aload_n hx hb d_M_picture_25 rfl (lv_at hl 0 rfl) ?_
      refine lv_iload_n hx hb d_M_picture_26 rfl (lv_at hl 1 rfl) ?_
      refine lv_bipush (v := nI 7) hx hb d_M_picture_27 (by decide) ?_
      refine lv_imul hx hb d_M_picture_29 ?_
      refine x_top (y := nI (f * 7)) (pk_mul _ _) ?_
      refine lv_iload_n hx hb d_M_picture_30 rfl (lv_at hl 2 rfl) ?_
      refine lv_iadd hx hb d_M_picture_31 ?_
      refine x_top (y := nI ((f * 7) + i)) (nI_add _ _) ?_
      refine lv_bipush (v := nI 42) hx hb d_M_picture_32 (by decide) ?_
      refine lv_iload_n hx hb d_M_picture_34 rfl (lv_at hl 1 rfl) ?_
      refine lv_bipush (v := nI 7) hx hb d_M_picture_35 (by decide) ?_
      refine lv_imul hx hb d_M_picture_37 ?_
      refine x_top (y := nI (f * 7)) (pk_mul _ _) ?_
      refine lv_iadd hx hb d_M_picture_38 ?_
      refine x_top (y := nI (42 + (f * 7))) (nI_add _ _) ?_
      refine lv_iload_n hx hb d_M_picture_39 rfl (lv_at hl 2 rfl) ?_
      refine lv_iadd hx hb d_M_picture_40 ?_
      refine x_top (y := nI ((42 + (f * 7)) + i)) (nI_add _ _) ?_
      refine xv_Q (n := 2) (As := [.int (nI ((f * 7) + i)), .int (nI ((42 + (f * 7)) + i))]) (rest := []) hx hb hml hown hg hK0 hP (c_M_copyRow l D T A _ bd K N q hz hM ((f * 7) + i) ((42 + (f * 7)) + i) (by omega) (by omega) (by omega) (by rw [t8]; exact (hbo f i (by omega) hi).1)) w_505 w_6 w_502 w_504 s_34 (ma_0 hM) rfl rfl (by decide +kernel) ⟨Nat.le_of_ble_eq_true rfl, Nat.le_of_ble_eq_true rfl⟩ rfl hl.1 rfl (Nat.le_of_ble_eq_true rfl) hS ⟨Nat.zero_le _, Nat.zero_le _⟩ rfl rfl d_M_picture_41 (fun r M1 H_210 L_211 hr hP hS => ?_)
      obtain ⟨rfl, q_212, hR1, k1, k2, k3, k4⟩ := hr
      have hR := hR.tr hR1
      have hM := hR.1
      refine x_fr (pc := 44) [] rfl rfl ?_
      refine lv_iconst (v := nI 0) hx hb d_M_picture_44 (by decide) ?_
      refine hret _ _ _ _ _ _ d_M_picture_45 hP hS (by
        rw [aPicture, if_neg c5, if_neg c13, ef, ei, if_neg c_20]
        refine ⟨rfl, _, hR, ?_⟩
        dsimp only
        refine sM_pic hs (f := f) (s := i) (by omega) hi hz7 (fun k f1 s1 z => by rw [cpS, upS_n (by omega), upS_n (by omega)]) k1 (fun a z => by rw [k2, upd_n z]) k4 ?_
        rw [cpS, upS_n (by omega), upS_s, upS_s]
        exact rwS_cp hz7 (hs.rc (f := f) (s := i) (by omega) hi) k2 k3)
    · refine lv_iconst (v := (-1)) hx hb d_M_picture_23 (by decide) ?_
      exact hret _ _ _ _ _ _ d_M_picture_24 hP hS (by rw [aPicture, if_neg c5, if_neg c13, ef, ei, if_pos c_20]; exact ⟨rfl, q, hR, hs⟩)
set_option maxHeartbeats 4000000 in
set_option maxRecDepth 100000 in
theorem c_M_fallBack (l : Launch) (D : va_G) (T : Nat → ClassId) (A : Nat → Prop) (M : xM) (bd : Nat → Nat) (K N : Nat) (q : Nat → Nat → Int32) (hz : zB K N) (hM : mG T bd K N q M) (g : gT) (hs : sM K N g q) (c0 : Nat) (w : Nat → Nat) (hI : iG N g c0 w) (x y : Int32) : Met l y_M_fallBack (Cond.code y_M_fallBack b_M_fallBack 3 (some .int) :: gw) (rmH 1) (xPc D T A M [.ref (bd 0), .int x, .int y]) (xQ D A (fun r M1 => pM T bd K N M (aFall N g x y) r M1)) 0 0 A := by
  refine xMetQi (by decide) (Nat.le_of_ble_eq_true rfl) ?_
  intro p e s m below meth c Q ls hB hP hS hl hret
  obtain ⟨hx, hb, hml, hown, hg, hK0, hnm⟩ := hB
  have hown : s.vm.findClass "ShareGridModel" = some m.cls := hown
  have hK := hK0.1
  have hN := hK0.2.1
  obtain ⟨hz1, hz4, hzn, hz7⟩ := id hz
  obtain ⟨hq, hq6, hwr, hbo⟩ := id hI
  have hR := hM.rf
  have hl : lv_has ls 3 [(0, .ref (bd 0)), (1, .int x), (2, .int y)] := hl
  refine lv_aload_n hx hb d_M_fallBack_0 rfl (lv_at hl 0 rfl) ?_
  refine lv_iload_n hx hb d_M_fallBack_1 rfl (lv_at hl 1 rfl) ?_
  refine lv_iload_n hx hb d_M_fallBack_2 rfl (lv_at hl 2 rfl) ?_
  refine xv_R (n := 2) (As := [.int x, .int y]) (rest := []) hx hb hml hown hg hK0 hP (c_M_bad l D T A _ bd K N q hz hM g hs c0 w hI x y) w_517 w_6 w_514 w_516 s_35 (ma_0 hM) rfl rfl (by decide +kernel) ⟨Nat.le_of_ble_eq_true rfl, Nat.le_of_ble_eq_true rfl⟩ rfl hl.1 rfl (Nat.le_of_ble_eq_true rfl) ⟨Nat.zero_le _, Nat.zero_le _⟩ rfl rfl d_M_fallBack_3 (fun r hr => ?_)
  subst hr
  refine x_fr (pc := 6) [.int (baF N g x y)] rfl rfl ?_
  refine lv_if_ne (tgt := 26) hx hb d_M_fallBack_6 (by decide) (fun c_6 => ?_) (fun c_6 => ?_)
  · refine lv_iconst (v := (-1)) hx hb d_M_fallBack_26 (by decide) ?_
    exact hret _ _ _ _ _ _ d_M_fallBack_27 hP hS (by
      rcases baF_1 (show ¬ baF N g x y = 0 from c_6) with h | ⟨h, h1⟩
      · rw [aFall, if_pos h]; exact ⟨rfl, q, hR, hs⟩
      · rw [aFall, if_neg h, if_pos h1]; exact ⟨rfl, q, hR, hs⟩)
  · obtain ⟨c5, c13⟩ := baF_0 (show baF N g x y = 0 from c_6)
    have c8 := c5
    rw [hq] at c8
    obtain ⟨f, hf, rfl⟩ := inF_j (by omega) c8
    obtain ⟨i, hi, rfl⟩ := inF_j (by omega) c13
    have ef : (nI f).toNatClampNeg = f := nI_clamp (by omega)
    have ei : (nI i).toNatClampNeg = i := nI_clamp (by omega)
    obtain ⟨t8, t0, t1, t2, t3⟩ := id (hs.rc (f := f) (s := i) (by omega) hi)
    obtain ⟨p8, p0, p1, p2, p3⟩ := id (hs.pi (f := f) (s := i) (by omega) hi)
    refine lv_aload_n hx hb d_M_fallBack_9 rfl (lv_at hl 0 rfl) ?_
    refine x_get (v := .ref (bd 8)) (C := R_M) (T := F_M) (N := 17) hx hb hg i_M hown hK hP (ma_0 hM) rfl 10 (by decide) (hg _ w_364) (fun _ h9 => h9) rfl d_M_fallBack_10 ?_
    refine lv_bipush (v := nI 42) hx hb d_M_fallBack_13 (by decide) ?_
    refine lv_iload_n hx hb d_M_fallBack_15 rfl (lv_at hl 1 rfl) ?_
    refine lv_bipush (v := nI 7) hx hb d_M_fallBack_16 (by decide) ?_
    refine lv_imul hx hb d_M_fallBack_18 ?_
    refine x_top (y := nI (f * 7)) (pk_mul _ _) ?_
    refine lv_iadd hx hb d_M_fallBack_19 ?_
    refine x_top (y := nI (42 + (f * 7))) (nI_add _ _) ?_
    refine lv_iload_n hx hb d_M_fallBack_20 rfl (lv_at hl 2 rfl) ?_
    refine lv_iadd hx hb d_M_fallBack_21 ?_
    refine x_top (y := nI ((42 + (f * 7)) + i)) (nI_add _ _) ?_
    refine x_zald (v := q 8 ((42 + (f * 7)) + i)) hx hb hK hP 1 (ma_8 hM) rfl (vp_in_nI (by omega) (by omega)) (by rw [nI_clamp (by omega)]) d_M_fallBack_22 ?_
    refine x_top (y := (g 19 f i 0)) p8 ?_
    refine lv_if_ne (tgt := 28) hx hb d_M_fallBack_23 (by decide) (fun c_23 => ?_) (fun c_23 => ?_)
    · refine lv_aload_n hx hb d_M_fallBack_28 rfl (lv_at hl 0 rfl) ?_
      refine lv_bipush (v := nI 42) hx hb d_M_fallBack_29 (by decide) ?_
      refine lv_iload_n hx hb d_M_fallBack_31 rfl (lv_at hl 1 rfl) ?_
      refine lv_bipush (v := nI 7) hx hb d_M_fallBack_32 (by decide) ?_
      refine lv_imul hx hb d_M_fallBack_34 ?_
      refine x_top (y := nI (f * 7)) (pk_mul _ _) ?_
      refine lv_iadd hx hb d_M_fallBack_35 ?_
      refine x_top (y := nI (42 + (f * 7))) (nI_add _ _) ?_
      refine lv_iload_n hx hb d_M_fallBack_36 rfl (lv_at hl 2 rfl) ?_
      refine lv_iadd hx hb d_M_fallBack_37 ?_
      refine x_top (y := nI ((42 + (f * 7)) + i)) (nI_add _ _) ?_
      refine lv_iload_n hx hb d_M_fallBack_38 rfl (lv_at hl 1 rfl) ?_
      refine lv_bipush (v := nI 7) hx hb d_M_fallBack_39 (by decide) ?_
      refine lv_imul hx hb d_M_fallBack_41 ?_
      refine x_top (y := nI (f * 7)) (pk_mul _ _) ?_
      refine lv_iload_n hx hb d_M_fallBack_42 rfl (lv_at hl 2 rfl) ?_
      refine lv_iadd hx hb d_M_fallBack_43 ?_
      refine x_top (y := nI ((f * 7) + i)) (nI_add _ _) ?_
      refine xv_Q (n := 2) (As := [.int (nI ((42 + (f * 7)) + i)), .int (nI ((f * 7) + i))]) (rest := []) hx hb hml hown hg hK0 hP (c_M_copyRow l D T A _ bd K N q hz hM ((42 + (f * 7)) + i) ((f * 7) + i) (by omega) (by omega) (by omega) (by rw [p8]; exact (hbo f i (by omega) hi).2)) w_505 w_6 w_502 w_504 s_34 (ma_0 hM) rfl rfl (by decide +kernel) ⟨Nat.le_of_ble_eq_true rfl, Nat.le_of_ble_eq_true rfl⟩ rfl hl.1 rfl (Nat.le_of_ble_eq_true rfl) hS ⟨Nat.zero_le _, Nat.zero_le _⟩ rfl rfl d_M_fallBack_44 (fun r M1 H_213 L_214 hr hP hS => ?_)
      obtain ⟨rfl, q_215, hR1, k1, k2, k3, k4⟩ := hr
      have hR := hR.tr hR1
      have hM := hR.1
      refine x_fr (pc := 47) [] rfl rfl ?_
      refine lv_iconst (v := nI 0) hx hb d_M_fallBack_47 (by decide) ?_
      refine hret _ _ _ _ _ _ d_M_fallBack_48 hP hS (by
        rw [aFall, if_neg c5, if_neg c13, ef, ei, if_neg c_23]
        refine ⟨rfl, _, hR, ?_⟩
        dsimp only
        refine sM_rec hs (f := f) (s := i) (by omega) hi hz7 (fun k f1 s1 z => by rw [cpS, upS_n (by omega), upS_n (by omega)]) k1 (fun a z => by rw [k2, upd_n z]) k4 ?_
        rw [cpS, upS_n (by omega), upS_s, upS_s]
        exact rwS_cp hz7 (hs.pi (f := f) (s := i) (by omega) hi) k2 k3)
    · refine lv_iconst (v := (-1)) hx hb d_M_fallBack_26 (by decide) ?_
      exact hret _ _ _ _ _ _ d_M_fallBack_27 hP hS (by rw [aFall, if_neg c5, if_neg c13, ef, ei, if_pos c_23]; exact ⟨rfl, q, hR, hs⟩)
