/-! TEXTS: the errand k has em k digits ee k 0, ee k 1 ..; it begins at zt_s em k -/
def zt_s (m : Nat → Nat) : Nat → Nat
  | 0 => 0
  | k + 1 => zt_s m k + m k + 1
/-- the first L characters are those of the text -/
def zt (f : Nat → Int32) (L : Nat) (m : Nat → Nat) (e : Nat → Nat → Nat) : Prop := (∀ k j, j < m k → zt_s m k + j < L → f (zt_s m k + j) = nI (48 + e k j)) ∧ ∀ k, zt_s m k + m k < L → f (zt_s m k + m k) = nI 44
def zt_v (N : Nat) (m : Nat → Nat) (e : Nat → Nat → Nat) : Prop := ∀ k, k < N → 1 ≤ m k ∧ m k ≤ 8 ∧ (∀ j, j < m k → e k j < 6) ∧ ∀ j, j + 1 < m k → e k j ≠ e k (j + 1)
theorem zt_s_mono {m : Nat → Nat} : ∀ {k N : Nat}, k ≤ N → zt_s m k ≤ zt_s m N
  | k, 0, h => by rw [show k = 0 by omega]; exact Nat.le_refl _
  | k, N + 1, h => by
    by_cases q : k = N + 1
    · rw [q]; exact Nat.le_refl _
    · have := zt_s_mono (m := m) (k := k) (N := N) (by omega)
      show zt_s m k ≤ zt_s m N + m N + 1
      omega
theorem zt_s_le {m : Nat → Nat} {k N : Nat} (h : k < N) : zt_s m k + m k + 1 ≤ zt_s m N := zt_s_mono (m := m) (k := k + 1) h
theorem zt_one {m : Nat → Nat} {k j k' j' : Nat} (hj : j ≤ m k) (hj' : j' ≤ m k') (h : zt_s m k + j = zt_s m k' + j') : k = k' ∧ j = j' := by
  rcases Nat.lt_trichotomy k k' with q | q | q
  · have := zt_s_le (m := m) q; omega
  · subst q; exact ⟨rfl, by omega⟩
  · have := zt_s_le (m := m) q; omega
theorem zt_0 (f : Nat → Int32) (m : Nat → Nat) (e : Nat → Nat → Nat) : zt f 0 m e := ⟨fun _ _ _ h => absurd h (Nat.not_lt_zero _), fun _ h => absurd h (Nat.not_lt_zero _)⟩
theorem zt_d {f f' : Nat → Int32} {L k j : Nat} {m : Nat → Nat} {e : Nat → Nat → Nat} (h : zt f L m e) (hL : L = zt_s m k + j) (hj : j < m k) (h1 : ∀ i, i < L → f' i = f i) (h2 : f' L = nI (48 + e k j)) : zt f' (L + 1) m e := by
  refine ⟨fun k' j' hj' hl => ?_, fun k' hl => ?_⟩
  · by_cases q : zt_s m k' + j' = L
    · obtain ⟨rfl, rfl⟩ := zt_one (by omega) (by omega) (q.trans hL)
      rw [q]; exact h2
    · rw [h1 _ (by omega)]; exact h.1 k' j' hj' (by omega)
  · by_cases q : zt_s m k' + m k' = L
    · obtain ⟨rfl, z⟩ := zt_one (Nat.le_refl _) (by omega) (q.trans hL)
      omega
    · rw [h1 _ (by omega)]; exact h.2 k' (by omega)
theorem zt_c {f f' : Nat → Int32} {L k : Nat} {m : Nat → Nat} {e : Nat → Nat → Nat} (h : zt f L m e) (hL : L = zt_s m k + m k) (h1 : ∀ i, i < L → f' i = f i) (h2 : f' L = nI 44) : zt f' (L + 1) m e := by
  refine ⟨fun k' j' hj' hl => ?_, fun k' hl => ?_⟩
  · by_cases q : zt_s m k' + j' = L
    · obtain ⟨rfl, z⟩ := zt_one (by omega) (Nat.le_refl _) (q.trans hL)
      omega
    · rw [h1 _ (by omega)]; exact h.1 k' j' hj' (by omega)
  · by_cases q : zt_s m k' + m k' = L
    · rw [q]; exact h2
    · rw [h1 _ (by omega)]; exact h.2 k' (by omega)
def zc_w (v : Int32) : Int32 := if v < nI 48 then nI 0 else if nI 54 ≤ v then nI 0 else nI 1
theorem zc_w1 {x : Nat} (h : x < 6) : zc_w (nI (48 + x)) = nI 1 := by
  unfold zc_w
  rw [if_neg (nI_nlt (by omega) (by omega)), if_neg (nI_ge (by omega) (by omega))]
theorem zc_44 {x : Nat} (h : x < 6) : ¬ nI (48 + x) = nI 44 := fun z => by have := zI_inj (by omega) (by omega) z; omega
theorem zc_mx {x : Nat} (h : x < 2 ^ 31) : (if nI 0 < nI x then nI x else nI 0) = nI x := by
  by_cases q : nI 0 < nI x
  · rw [if_pos q]
  · rw [if_neg q]
    have : x = 0 := by
      rcases Nat.eq_zero_or_pos x with z | z
      · exact z
      · exact absurd (nI_lt z h) q
    rw [this]
theorem zc_sb (x : Nat) : nI (48 + x) - nI 48 = nI x := by
  rw [← nI_add]
  grind
/-- a person who comes, j of its errand's digits laid down -/
def zm_a1 (M : xm_T) (p j : Nat) (e : Nat → Int32) : xm_T := xu_p (xr_up M (p + 1) (fun i => if i < j then e i else M (p + 1) i)) p 2 (nI j)
theorem zm_a1_0 {M : xm_T} {p : Nat} {e : Nat → Int32} (h : M p 2 = nI 0) : zm_a1 M p 0 e = M := by
  funext x
  unfold zm_a1 xu_p
  by_cases q : x = p
  · subst q
    rw [xr_s, xr_n _ _ (by omega)]
    funext i
    by_cases qi : i = 2
    · subst qi; rw [zu_s, h]
    · rw [zu_3 _ _ _ _ qi]
  · rw [xr_n _ _ q]
    by_cases q2 : x = p + 1
    · subst q2
      rw [xr_s]
      funext i
      rw [if_neg (by omega)]
    · rw [xr_n _ _ q2]
theorem zm_a1_1 {M : xm_T} {p j : Nat} {e : Nat → Int32} : xu_p (xu_p (zm_a1 M p j e) (p + 1) j (e j)) p 2 (nI (j + 1)) = zm_a1 M p (j + 1) e := by
  funext x
  unfold zm_a1 xu_p
  by_cases q : x = p
  · subst q
    rw [xr_s, xr_n _ _ (by omega), xr_s, xr_n _ _ (by omega), xr_s, xr_n _ _ (by omega)]
    funext i
    by_cases qi : i = 2
    · subst qi; rw [zu_s, zu_s]
    · rw [zu_3 _ _ _ _ qi, zu_3 _ _ _ _ qi, zu_3 _ _ _ _ qi]
  · rw [xr_n _ _ q, xr_n _ _ q]
    by_cases q2 : x = p + 1
    · subst q2
      rw [xr_s, xr_s, xr_n _ _ (by omega), xr_s]
      funext i
      unfold upd
      by_cases qi : i = j
      · subst qi; rw [if_pos rfl, if_pos (by omega)]
      · rw [if_neg qi]
        show (if i < j then e i else M (p + 1) i) = _
        by_cases q3 : i < j
        · rw [if_pos q3, if_pos (by omega)]
        · rw [if_neg q3, if_neg (by omega)]
    · rw [xr_n _ _ q2, xr_n _ _ q2, xr_n _ _ q, xr_n _ _ q2]
theorem zm_a1_o {M : xm_T} {p j x : Nat} {e : Nat → Int32} (h1 : x ≠ p) (h2 : x ≠ p + 1) : zm_a1 M p j e x = M x := by
  unfold zm_a1 xu_p
  rw [xr_n _ _ h1, xr_n _ _ h2]
theorem zm_a1_2 {M : xm_T} {p j : Nat} {e : Nat → Int32} : zm_a1 M p j e p 2 = nI j := xu_s _ _ _ _
theorem zm_a1_p {M : xm_T} {p j i : Nat} {e : Nat → Int32} (h : i ≠ 2) : zm_a1 M p j e p i = M p i := by
  unfold zm_a1
  rw [xu_n _ (Or.inr h), xr_n _ _ (by omega)]
theorem zm_a1_e {M : xm_T} {p j i : Nat} {e : Nat → Int32} (h : i < j) : zm_a1 M p j e (p + 1) i = e i := by
  unfold zm_a1
  rw [xu_n _ (Or.inl (by omega)), xr_s]
  exact if_pos h
theorem zm_a1_a {M : xm_T} {a k m : Nat} {e : Nat → Int32} : zm_a1 (xu_p M a 3 (M a 3 + nI 1)) (a + 2 * k + 34) m e = zm_a0 a k m e M := by
  unfold zm_a1 zm_a0
  rw [show xu_p M a 3 (M a 3 + nI 1) (a + 2 * k + 34 + 1) = M (a + 2 * k + 34 + 1) from xr_n _ _ (by omega)]
theorem zi_an {a n T G B : Nat} {M : xm_T} (h : zi a M n T G B) (hn : n < 24) : ∀ u, u < 6 → ∃ L, L < 24 ∧ M (a + 5 * u + 5) 1 = nI L := fun u hu => by
  obtain ⟨Q, R, hold⟩ := h.2.2.2.2.2.1
  exact ⟨_, zl_room (hold u hu).2.2.1 ((hold u hu).q h.n) hn (fun z => by have := ((hold u hu).2.2.2.2.1 n).mp z; omega), (hold u hu).1.2.1⟩
/-- the people of a text come -/
def zm_al (a : Nat) (m : Nat → Nat) (e : Nat → Nat → Nat) : Nat → xm_T → xm_T := zm_fo (fun k => zm_ad a (m k) (fun j => nI (e k j)))
theorem zi_al {a n T G B : Nat} {M : xm_T} {m : Nat → Nat} {e : Nat → Nat → Nat} (h : zi a M n T G B) : ∀ (N : Nat), zt_v N m e → n + N ≤ 24 → zi a (zm_al a m e N M) (n + N) T G B
  | 0, _, _ => h
  | N + 1, hv, hn => by
    have g := zi_al h N (fun k hk => hv k (by omega)) (by omega)
    obtain ⟨v1, v2, v3, v4⟩ := hv N (by omega)
    exact zi_ad (n := n + N) g (by omega) v1 v2 (fun j hj => ⟨e N j, v3 j hj, rfl⟩)
theorem zZ_al {a b : Nat} {M N M1 N1 : xm_T} {m m' : Nat → Nat} {e e' : Nat → Nat → Nat} (h : zz_Z a b M N M1 N1) : ∀ (K : Nat), (∀ k, k < K → m k = m' k ∧ ∀ j, j < m k → e k j = e' k j) → zz_Z a b M N (zm_al a m e K M1) (zm_al b m' e' K N1)
  | 0, _ => h
  | K + 1, hm => zZ_ad (zZ_al h K (fun k hk => hm k (by omega))) (hm K (by omega)).1 (fun j hj => by rw [(hm K (by omega)).2 j hj])
theorem zo_ad {a m : Nat} {e : Nat → Int32} {M : xm_T} : zz_o a M (zm_ad a m e M) := (zZ_ad (zZ_rf (fun _ _ => rfl : zz_g a a M M)) rfl (fun _ _ => rfl)).2.1
theorem zo_al {a : Nat} {m : Nat → Nat} {e : Nat → Nat → Nat} {M : xm_T} (K : Nat) : zz_o a M (zm_al a m e K M) := (zZ_al (zZ_rf (fun _ _ => rfl : zz_g a a M M)) K (fun _ _ => ⟨rfl, fun _ _ => rfl⟩)).2.1
