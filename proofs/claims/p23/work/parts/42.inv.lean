/-! WHAT HOLDS OF A MINISTRY: n people, T ticks, G a bound of the ticks at which people went, B a bound of halves and servings -/
def zi_P (G : Nat) (f e : Nat → Int32) : Prop := ∃ m t : Nat, 1 ≤ m ∧ m ≤ 8 ∧ f 2 = nI m ∧ f 4 = nI t ∧ (∀ j, j < m → ∃ w, w < 6 ∧ e j = nI w) ∧ (((f 3 = nI 0 ∨ f 3 = nI 1) ∧ t < m ∧ f 10 = -6 ∧ (f 5 = nI 0 ∨ (f 5 = nI 1 ∧ 0 < t))) ∨ (f 3 = nI 2 ∧ t = m ∧ f 5 = nI 0 ∧ ∃ y, y ≤ G ∧ f 10 = nI y) ∨ (f 3 = nI 3 ∧ t < m ∧ f 5 = nI 0 ∧ ∃ y, y ≤ G ∧ f 10 = nI y))
def zi_N (f : Nat → Int32) : Prop := f 2 = nI 0 ∧ f 3 = nI 4 ∧ f 4 = nI 0 ∧ f 5 = nI 0 ∧ f 7 = nI 0 ∧ f 9 = nI 0 ∧ f 10 = -6
def zi_W (B : Nat) (f : Nat → Int32) : Prop := ∃ h s b : Nat, h ≤ B ∧ s ≤ B ∧ b ≤ s ∧ f 2 = nI h ∧ f 3 = nI s ∧ f 4 = nI b
def zi_Lw (a n : Nat) (M : xm_T) (w : Nat) (Q R : List Nat) : Prop := zl_L M (a + 5 * w + 5) Q ∧ zl_L M (a + 5 * w + 7) R ∧ Q.Nodup ∧ R.Nodup ∧ (∀ k, k ∈ Q ↔ k < n ∧ M (a + 2 * k + 34) 3 = nI 0 ∧ zm_wz M (a + 2 * k + 34) = w) ∧ ∀ k, k ∈ R ↔ k < n ∧ M (a + 2 * k + 34) 3 = nI 1 ∧ zm_wz M (a + 2 * k + 34) = w
def zi_L (a n : Nat) (M : xm_T) : Prop := ∃ Q R : Nat → List Nat, ∀ w, w < 6 → zi_Lw a n M w (Q w) (R w)
def zi_S (a : Nat) (M : xm_T) : Prop :=
  xf_sum (fun w => M (a + 5 * w + 4) 2) 6 + xf_sum (fun k => zm_h (M (a + 2 * k + 34) 5)) 24 + M a 5 = nI 48 + M a 6 ∧
  xf_sum (fun w => M (a + 5 * w + 4) 4) 6 = xf_sum (fun k => M (a + 2 * k + 34) 9) 24 ∧
  xf_sum (fun w => M (a + 5 * w + 4) 3) 6 = xf_sum (fun k => M (a + 2 * k + 34) 4) 24 + xf_sum (fun k => M (a + 2 * k + 34) 9) 24
def zi_A (a n T G : Nat) (M : xm_T) : Prop := n ≤ 24 ∧ M a 3 = nI n ∧ M a 4 = nI T ∧ T ≤ G ∧ ∃ v, v ≤ 20 ∧ M (a + 1) 1 = nI v
def zi (a : Nat) (M : xm_T) (n T G B : Nat) : Prop :=
  zi_A a n T G M ∧ (∀ k, k < 24 → M (a + 2 * k + 34) 0 = nI k) ∧ (∀ k, n ≤ k → k < 24 → zi_N (M (a + 2 * k + 34))) ∧ (∀ k, k < n → zi_P G (M (a + 2 * k + 34)) (M (a + 2 * k + 35))) ∧ (∀ w, w < 6 → zi_W B (M (a + 5 * w + 4))) ∧ zi_L a n M ∧ zi_S a M
/-- the person at p is at the window w, the one of its errand's m windows that has the place t -/
def zk_at (M : xm_T) (p t m w : Nat) : Prop := M p 2 = nI m ∧ M p 4 = nI t ∧ t < m ∧ m ≤ 8 ∧ M (p + 1) t = nI w ∧ w < 6
theorem zk_wz {M : xm_T} {p t m w : Nat} (h : zk_at M p t m w) : zm_wz M p = w := by
  obtain ⟨h1, h2, h3, h4, h5, h6⟩ := h
  unfold zm_wz
  rw [h2, nI_clamp (by omega), h5, nI_clamp (by omega)]
theorem zi.n {a n T G B : Nat} {M : xm_T} (h : zi a M n T G B) : n ≤ 24 := h.1.1
theorem zi_P.at {G p : Nat} {M : xm_T} (h : zi_P G (M p) (M (p + 1))) (hw : M p 3 = nI 0 ∨ M p 3 = nI 1) : ∃ t m w, zk_at M p t m w := by
  obtain ⟨m, t, h1, h2, h3, h4, h5, h6⟩ := h
  have e01 : ¬ nI 0 = nI 2 := by decide
  have e02 : ¬ nI 1 = nI 2 := by decide
  have e03 : ¬ nI 0 = nI 3 := by decide
  have e04 : ¬ nI 1 = nI 3 := by decide
  have ht : t < m := by
    rcases h6 with ⟨-, q, -⟩ | ⟨q, -⟩ | ⟨q, -⟩
    · exact q
    · rcases hw with z | z
      · exact absurd (z.symm.trans q) e01
      · exact absurd (z.symm.trans q) e02
    · rcases hw with z | z
      · exact absurd (z.symm.trans q) e03
      · exact absurd (z.symm.trans q) e04
  obtain ⟨w, hw6, he⟩ := h5 t ht
  exact ⟨t, m, w, h3, h4, ht, h2, he, hw6⟩
theorem zi_P.mono {G G' : Nat} {f e : Nat → Int32} (h : zi_P G f e) (hG : G ≤ G') : zi_P G' f e := by
  obtain ⟨m, t, h1, h2, h3, h4, h5, h6⟩ := h
  refine ⟨m, t, h1, h2, h3, h4, h5, ?_⟩
  rcases h6 with q | ⟨q1, q2, q3, y, q4, q5⟩ | ⟨q1, q2, q3, y, q4, q5⟩
  · exact Or.inl q
  · exact Or.inr (Or.inl ⟨q1, q2, q3, y, by omega, q5⟩)
  · exact Or.inr (Or.inr ⟨q1, q2, q3, y, by omega, q5⟩)
theorem zi_W.mono {B B' : Nat} {f : Nat → Int32} (h : zi_W B f) (hB : B ≤ B') : zi_W B' f := by
  obtain ⟨x, s, b, h1, h2, h3, h4⟩ := h
  exact ⟨x, s, b, by omega, by omega, h3, h4⟩
theorem zi.mono {a n T G B G' B' : Nat} {M : xm_T} (h : zi a M n T G B) (hG : G ≤ G') (hB : B ≤ B') : zi a M n T G' B' := by
  obtain ⟨⟨h1, h2, h3, h4, h5⟩, g1, g2, g3, g4, g5⟩ := h
  exact ⟨⟨h1, h2, h3, by omega, h5⟩, g1, g2, fun k hk => (g3 k hk).mono hG, fun w hw => (g4 w hw).mono hB, g5⟩
/-- the same as far as it matters -/
def zr (a b n : Nat) (M N : xm_T) : Prop :=
  (∀ i, i < 7 → 3 ≤ i → N b i = M a i) ∧ N (b + 1) 1 = M (a + 1) 1 ∧
  (∀ k, k < 24 → (∀ i, i = 0 ∨ i = 2 ∨ i = 3 ∨ i = 4 ∨ i = 5 ∨ i = 9 ∨ i = 10 ∨ (i = 7 ∧ n ≤ k) → N (b + 2 * k + 34) i = M (a + 2 * k + 34) i) ∧ N (b + 2 * k + 35) = M (a + 2 * k + 35)) ∧
  ∀ w, w < 6 → (∀ i, i < 5 → 2 ≤ i → N (b + 5 * w + 4) i = M (a + 5 * w + 4) i) ∧ N (b + 5 * w + 5) 1 = M (a + 5 * w + 5) 1 ∧ N (b + 5 * w + 6) = M (a + 5 * w + 6) ∧ N (b + 5 * w + 7) 1 = M (a + 5 * w + 7) 1 ∧ N (b + 5 * w + 8) = M (a + 5 * w + 8)
theorem zi_cg {a b n T G B : Nat} {M N : xm_T} (h : zi a M n T G B) (hr : zr a b n M N) : zi b N n T G B := by
  obtain ⟨⟨h1, h2, h3, h4, v, h5, h6⟩, g1, g2, g3, g4, ⟨Q, R, g5⟩, g6, g7, g8⟩ := h
  obtain ⟨r1, r2, r3, r4⟩ := hr
  have wz : ∀ k, k < 24 → zm_wz N (b + 2 * k + 34) = zm_wz M (a + 2 * k + 34) := fun k hk => by
    unfold zm_wz
    rw [(r3 k hk).1 4 (by omega), show N (b + 2 * k + 34 + 1) = M (a + 2 * k + 34 + 1) from (r3 k hk).2]
  refine ⟨⟨h1, by rw [r1 3 (by omega) (by omega)]; exact h2, by rw [r1 4 (by omega) (by omega)]; exact h3, h4, v, h5, by rw [r2]; exact h6⟩, fun k hk => by rw [(r3 k hk).1 0 (by omega)]; exact g1 k hk, fun k hn hk => ?_, fun k hk => ?_, fun w hw => ?_, ⟨Q, R, fun w hw => ?_⟩, ?_, ?_, ?_⟩
  · have r := (r3 k hk).1
    unfold zi_N
    rw [r 2 (by omega), r 3 (by omega), r 4 (by omega), r 5 (by omega), r 7 (by omega), r 9 (by omega), r 10 (by omega)]
    exact g2 k hn hk
  · have r := (r3 k (by omega)).1
    unfold zi_P
    rw [r 2 (by omega), r 3 (by omega), r 4 (by omega), r 5 (by omega), r 10 (by omega), (r3 k (by omega)).2]
    exact g3 k hk
  · have r := (r4 w hw).1
    unfold zi_W
    rw [r 2 (by omega) (by omega), r 3 (by omega) (by omega), r 4 (by omega) (by omega)]
    exact g4 w hw
  · obtain ⟨-, p1, p2, p3, p4⟩ := r4 w hw
    obtain ⟨e1, e2, e3, e4, e5, e6⟩ := g5 w hw
    refine ⟨e1.eq p1 p2, e2.eq p3 p4, e3, e4, fun k => ?_, fun k => ?_⟩
    · rw [e5]
      constructor
      · rintro ⟨z1, z2, z3⟩
        exact ⟨z1, by rw [(r3 k (by omega)).1 3 (by omega)]; exact z2, by rw [wz k (by omega)]; exact z3⟩
      · rintro ⟨z1, z2, z3⟩
        exact ⟨z1, by rw [← (r3 k (by omega)).1 3 (by omega)]; exact z2, by rw [← wz k (by omega)]; exact z3⟩
    · rw [e6]
      constructor
      · rintro ⟨z1, z2, z3⟩
        exact ⟨z1, by rw [(r3 k (by omega)).1 3 (by omega)]; exact z2, by rw [wz k (by omega)]; exact z3⟩
      · rintro ⟨z1, z2, z3⟩
        exact ⟨z1, by rw [← (r3 k (by omega)).1 3 (by omega)]; exact z2, by rw [← wz k (by omega)]; exact z3⟩
  · rw [zs_c (f := fun w => M (a + 5 * w + 4) 2) (fun w hw => (r4 w hw).1 2 (by omega) (by omega)), zs_c (f := fun k => zm_h (M (a + 2 * k + 34) 5)) (fun k hk => congrArg zm_h ((r3 k hk).1 5 (by omega))), r1 5 (by omega) (by omega), r1 6 (by omega) (by omega)]
    exact g6
  · rw [zs_c (f := fun w => M (a + 5 * w + 4) 4) (fun w hw => (r4 w hw).1 4 (by omega) (by omega)), zs_c (f := fun k => M (a + 2 * k + 34) 9) (fun k hk => (r3 k hk).1 9 (by omega))]
    exact g7
  · rw [zs_c (f := fun w => M (a + 5 * w + 4) 3) (fun w hw => (r4 w hw).1 3 (by omega) (by omega)), zs_c (f := fun k => M (a + 2 * k + 34) 9) (fun k hk => (r3 k hk).1 9 (by omega)), zs_c (f := fun k => M (a + 2 * k + 34) 4) (fun k hk => (r3 k hk).1 4 (by omega))]
    exact g8
theorem zi_g {a b n T G B : Nat} {M N : xm_T} (h : zi a M n T G B) (hg : zz_g a b M N) : zi b N n T G B := by
  have r : ∀ {x y : Nat} (c : Nat), c < 82 → x = a + c → y = b + c → N y = M x := fun c hc hx hy => by subst hx; subst hy; exact (hg c hc).symm
  refine zi_cg h ⟨fun i _ _ => by rw [r 0 (x := a) (y := b) (by omega) (by omega) (by omega)], by rw [r 1 (x := a + 1) (y := b + 1) (by omega) (by omega) (by omega)], fun k hk => ⟨fun i _ => by rw [r (2 * k + 34) (x := a + 2 * k + 34) (y := b + 2 * k + 34) (by omega) (by omega) (by omega)], r (2 * k + 35) (by omega) (by omega) (by omega)⟩, fun w hw => ⟨fun i _ _ => by rw [r (5 * w + 4) (x := a + 5 * w + 4) (y := b + 5 * w + 4) (by omega) (by omega) (by omega)], by rw [r (5 * w + 5) (x := a + 5 * w + 5) (y := b + 5 * w + 5) (by omega) (by omega) (by omega)], r (5 * w + 6) (by omega) (by omega) (by omega), by rw [r (5 * w + 7) (x := a + 5 * w + 7) (y := b + 5 * w + 7) (by omega) (by omega) (by omega)], r (5 * w + 8) (by omega) (by omega) (by omega)⟩⟩
/-- a change in the slots of people that don't matter -/
theorem zi_mi {a n T G B : Nat} {M N : xm_T} (h : zi a M n T G B) (ho : ∀ x, (∀ k, k < 24 → x ≠ a + 2 * k + 34) → N x = M x) (hp : ∀ k, k < 24 → ∀ i, i = 0 ∨ i = 2 ∨ i = 3 ∨ i = 4 ∨ i = 5 ∨ i = 9 ∨ i = 10 ∨ (i = 7 ∧ n ≤ k) → N (a + 2 * k + 34) i = M (a + 2 * k + 34) i) : zi a N n T G B := by
  have r : ∀ c, c < 34 ∨ (∃ k, c = 2 * k + 35) → N (a + c) = M (a + c) := fun c hc => ho _ (fun k hk z => by
    rcases hc with hc | ⟨j, hc⟩ <;> omega)
  refine zi_cg h ⟨fun i _ _ => by rw [show N a = M a from r 0 (by omega)], by rw [r 1 (by omega)], fun k hk => ⟨hp k hk, by rw [show a + 2 * k + 35 = a + (2 * k + 35) by omega]; exact r _ (Or.inr ⟨k, rfl⟩)⟩, fun w hw => ?_⟩
  have q : ∀ i, i < 5 → N (a + 5 * w + 4 + i) = M (a + 5 * w + 4 + i) := fun i hi => by
    rw [show a + 5 * w + 4 + i = a + (5 * w + 4 + i) by omega]; exact r _ (by omega)
  exact ⟨fun i _ _ => by rw [show N (a + 5 * w + 4) = M (a + 5 * w + 4) from q 0 (by omega)], congrFun (q 1 (by omega)) 1, q 2 (by omega), congrFun (q 3 (by omega)) 1, q 4 (by omega)⟩
/-- one person moves, one window's row changes -/
theorem zi_mv {a n T G B B' k w : Nat} {M N : xm_T} (h : zi a M n T G B) (hk : k < n) (hw : w < 6) (hB : B ≤ B')
    (ha : N a 3 = M a 3 ∧ N a 4 = M a 4 ∧ N a 6 = M a 6) (hs : N (a + 1) = M (a + 1))
    (hp : ∀ j, j < 24 → j ≠ k → N (a + 2 * j + 34) = M (a + 2 * j + 34)) (he : ∀ j, j < 24 → N (a + 2 * j + 35) = M (a + 2 * j + 35)) (h0 : N (a + 2 * k + 34) 0 = M (a + 2 * k + 34) 0)
    (hP : zi_P G (N (a + 2 * k + 34)) (M (a + 2 * k + 35)))
    (hv : ∀ v, v < 6 → v ≠ w → N (a + 5 * v + 4) = M (a + 5 * v + 4)) (hW : zi_W B' (N (a + 5 * w + 4))) (hL : zi_L a n N)
    (s1 : N (a + 5 * w + 4) 2 + zm_h (N (a + 2 * k + 34) 5) + N a 5 = M (a + 5 * w + 4) 2 + zm_h (M (a + 2 * k + 34) 5) + M a 5)
    (s2 : N (a + 5 * w + 4) 4 + M (a + 2 * k + 34) 9 = M (a + 5 * w + 4) 4 + N (a + 2 * k + 34) 9)
    (s3 : N (a + 5 * w + 4) 3 + M (a + 2 * k + 34) 4 + M (a + 2 * k + 34) 9 = M (a + 5 * w + 4) 3 + N (a + 2 * k + 34) 4 + N (a + 2 * k + 34) 9) : zi a N n T G B' := by
  obtain ⟨⟨h1, h2, h3, h4, v, h5, h6⟩, g1, g2, g3, g4, -, g6, g7, g8⟩ := h
  have hk24 : k < 24 := by omega
  refine ⟨⟨h1, by rw [ha.1]; exact h2, by rw [ha.2.1]; exact h3, h4, v, h5, by rw [hs]; exact h6⟩, fun j hj => ?_, fun j hn hj => ?_, fun j hj => ?_, fun v hv6 => ?_, hL, ?_, ?_, ?_⟩
  · by_cases q : j = k
    · subst q; rw [h0]; exact g1 j hj
    · rw [hp j hj q]; exact g1 j hj
  · rw [hp j hj (by omega)]; exact g2 j hn hj
  · rw [he j (by omega)]
    by_cases q : j = k
    · subst q; exact hP
    · rw [hp j (by omega) q]; exact g3 j hj
  · by_cases q : v = w
    · subst q; exact hW
    · rw [hv v hv6 q]; exact (g4 v hv6).mono hB
  · rw [zs_up (f := fun w => M (a + 5 * w + 4) 2) (g := fun w => N (a + 5 * w + 4) 2) hw (fun v hv6 q => by show N (a + 5 * v + 4) 2 = _; rw [hv v hv6 q]), zs_up (f := fun k => zm_h (M (a + 2 * k + 34) 5)) (g := fun k => zm_h (N (a + 2 * k + 34) 5)) hk24 (fun j hj q => by show zm_h (N (a + 2 * j + 34) 5) = _; rw [hp j hj q]), ha.2.2]
    grind
  · rw [zs_up (f := fun w => M (a + 5 * w + 4) 4) (g := fun w => N (a + 5 * w + 4) 4) hw (fun v hv6 q => by show N (a + 5 * v + 4) 4 = _; rw [hv v hv6 q]), zs_up (f := fun k => M (a + 2 * k + 34) 9) (g := fun k => N (a + 2 * k + 34) 9) hk24 (fun j hj q => by show N (a + 2 * j + 34) 9 = _; rw [hp j hj q])]
    grind
  · rw [zs_up (f := fun w => M (a + 5 * w + 4) 3) (g := fun w => N (a + 5 * w + 4) 3) hw (fun v hv6 q => by show N (a + 5 * v + 4) 3 = _; rw [hv v hv6 q]), zs_up (f := fun k => M (a + 2 * k + 34) 9) (g := fun k => N (a + 2 * k + 34) 9) hk24 (fun j hj q => by show N (a + 2 * j + 34) 9 = _; rw [hp j hj q]), zs_up (f := fun k => M (a + 2 * k + 34) 4) (g := fun k => N (a + 2 * k + 34) 4) hk24 (fun j hj q => by show N (a + 2 * j + 34) 4 = _; rw [hp j hj q])]
    grind
/-- the lines behind a move of k -/
theorem zi_lv {a n k : Nat} {M N : xm_T} {Q R Q' R' : Nat → List Nat} (hk : k < n) (hn : n ≤ 24) (hold : ∀ w, w < 6 → zi_Lw a n M w (Q w) (R w))
    (hp : ∀ j, j < 24 → j ≠ k → N (a + 2 * j + 34) = M (a + 2 * j + 34)) (he : ∀ j, j < 24 → N (a + 2 * j + 35) = M (a + 2 * j + 35))
    (hnew : ∀ w, w < 6 → zl_L N (a + 5 * w + 5) (Q' w) ∧ zl_L N (a + 5 * w + 7) (R' w) ∧ (Q' w).Nodup ∧ (R' w).Nodup ∧ (∀ j, j ≠ k → (j ∈ Q' w ↔ j ∈ Q w)) ∧ (∀ j, j ≠ k → (j ∈ R' w ↔ j ∈ R w)) ∧ (k ∈ Q' w ↔ N (a + 2 * k + 34) 3 = nI 0 ∧ zm_wz N (a + 2 * k + 34) = w) ∧ (k ∈ R' w ↔ N (a + 2 * k + 34) 3 = nI 1 ∧ zm_wz N (a + 2 * k + 34) = w)) : zi_L a n N := by
  have wz : ∀ j, j < 24 → j ≠ k → zm_wz N (a + 2 * j + 34) = zm_wz M (a + 2 * j + 34) := fun j hj q => by
    unfold zm_wz
    rw [hp j hj q, show N (a + 2 * j + 34 + 1) = M (a + 2 * j + 34 + 1) from he j hj]
  refine ⟨Q', R', fun w hw => ?_⟩
  obtain ⟨-, -, -, -, e5, e6⟩ := hold w hw
  obtain ⟨f1, f2, f3, f4, f5, f6, f7, f8⟩ := hnew w hw
  refine ⟨f1, f2, f3, f4, fun j => ?_, fun j => ?_⟩
  · by_cases q : j = k
    · subst q
      rw [f7]
      exact ⟨fun z => ⟨hk, z⟩, fun z => z.2⟩
    · rw [f5 j q, e5]
      constructor
      · rintro ⟨z1, z2⟩
        exact ⟨z1, by rw [hp j (by omega) q, wz j (by omega) q]; exact z2⟩
      · rintro ⟨z1, z2⟩
        exact ⟨z1, by rw [← wz j (by omega) q, ← hp j (by omega) q]; exact z2⟩
  · by_cases q : j = k
    · subst q
      rw [f8]
      exact ⟨fun z => ⟨hk, z⟩, fun z => z.2⟩
    · rw [f6 j q, e6]
      constructor
      · rintro ⟨z1, z2⟩
        exact ⟨z1, by rw [hp j (by omega) q, wz j (by omega) q]; exact z2⟩
      · rintro ⟨z1, z2⟩
        exact ⟨z1, by rw [← wz j (by omega) q, ← hp j (by omega) q]; exact z2⟩
