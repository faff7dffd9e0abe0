/-! STEPS OF THE LAW, AS FUNCTIONS -/
theorem zq_tr {b : Nat} {M M1 M2 N1 N2 N3 : xm_T} (h1 : zq b M M1 N1) (h2 : zq b M1 M2 N2) (h3 : ∀ x, b + 1 ≤ x → x < b + 83 → N2 x = N3 x) : zq b M M2 N3 :=
  ⟨h2.1, fun x hx => by rw [h2.2.1 x hx, h1.2.1 x hx], fun x z1 z2 => by rw [h2.2.2.1 x z1 z2, h3 x z1 z2], fun x z1 z2 => by rw [h2.2.2.2 x z1 z2, h1.2.2.2 x z1 z2]⟩
theorem zq_rf {b : Nat} {M : xm_T} (h : zp b M) : zq b M M M := ⟨h, fun _ _ => rfl, fun _ _ _ => rfl, fun _ _ _ => rfl⟩
/-- what is now behind a change -/
theorem zq_n {b : Nat} {M M1 N1 : xm_T} (h : zq b M M1 N1) : zz_g (b + 1) (b + 1) N1 M1 := zg_of (fun x z1 z2 => h.2.2.1 x z1 (by omega))
theorem zL_chg2 {b c N : Nat} {M M1 M2 N1 N2 : xm_T} (hbc : b + 827 ≤ c) (h : zL b c N M) (q1 : zq c M M1 N1) (q2 : zq b M1 M2 N2) (hg : zz_g (b + 1) (c + 1) N2 N1) (hz : zL_z (b + 1) (N + 1) N2) : zL b c (N + 1) M2 := by
  obtain ⟨-, -, -, -, hs⟩ := h
  obtain ⟨a1, a2, a3, a4⟩ := q1
  obtain ⟨b1, b2, b3, b4⟩ := q2
  have g2 : zz_g (c + 1) (c + 1) N1 M2 := zg_of (fun x z1 z2 => by rw [b2 x (by omega), a3 x (by omega) (by omega)])
  have g1 : zz_g (b + 1) (b + 1) N2 M2 := zg_of (fun x z1 z2 => b3 x (by omega) (by omega))
  exact ⟨b1, zp_fr a1 (fun x z1 z2 => b2 x (by omega)), hz.g g1, (g1.sym.tr hg).tr g2, fun i hi => zL_sk (hs i hi) (Nat.le_succ N) hi (fun x z1 z2 => by rw [b4 x (by omega) (by omega), a2 x (by omega)]) (fun x z1 z2 => by rw [b2 x (by omega), a4 x (by omega) (by omega)])⟩
theorem zsa_g {a k w t m : Nat} {y : Int32} {M : xm_T} (hk : k < 24) (hat : zk_at M (a + 2 * k + 34) t m w) : zm_sa a k y M (a + 2 * k + 34) 4 = M (a + 2 * k + 34) 4 ∧ zm_sa a k y M (a + 2 * k + 34) 3 = nI 3 ∧ zm_sa a k y M (a + 2 * k + 34) 10 = y ∧ zm_sa a k y M a 5 = M a 5 + zm_h (M (a + 2 * k + 34) 5) ∧ zm_sa a k y M a 4 = M a 4 := by
  have hw := hat.2.2.2.2.2
  unfold zm_sa
  rw [zk_wz hat, if_pos hw]
  unfold zm_go
  refine ⟨?_, ?_, ?_, ?_, ?_⟩
  · rw [xu_n _ (Or.inr (by decide)), xu_n _ (Or.inr (by decide)), xu_n _ (Or.inr (by decide)), xu_n _ (Or.inl (by omega)), zl_rv_o (by omega) (by omega)]
  · rw [xu_n _ (Or.inr (by decide)), xu_n _ (Or.inr (by decide)), xu_s]
  · exact xu_s _ _ _ _
  · rw [xu_n _ (Or.inl (by omega)), xu_n _ (Or.inl (by omega)), xu_n _ (Or.inl (by omega)), xu_s]
  · rw [xu_n _ (Or.inl (by omega)), xu_n _ (Or.inl (by omega)), xu_n _ (Or.inl (by omega)), xu_n _ (Or.inr (by decide)), zl_rv_o (by omega) (by omega)]
theorem xi_thi {x : Int32} {lo hi : Int} {n : Nat} (h : nI n ≤ x) (hn : n < 2 ^ 31) (h0 : hi + 1 = n) : x.toInt < lo ∨ hi < x.toInt := Or.inr (by
  have h1 := Int32.le_iff_toInt_le.mp h
  rw [nI_toInt hn] at h1
  omega)
/-- the sums of windowOf -/
theorem zc_owh (a : Nat) (M : xm_T) : zc_ow a M = xf_sum (fun k => zm_h (M (a + 5 * k + 4) 0)) 6 := rfl
theorem zc_ps {x y z : Int32} : (y - x) + (z - y) = z - x := by grind
theorem zc_pp {x y z : Int32} : x + (y - x) = y := by grind
theorem zi_hb {a n T G B w : Nat} {M : xm_T} (h : zi a M n T G B) (hw : w < 6) : ∃ y, y ≤ B ∧ M (a + 5 * w + 4) 2 = nI y := by
  obtain ⟨y, s, c, h1, h2, h3, h4, h5⟩ := h.2.2.2.2.1 w hw
  exact ⟨y, h1, h4⟩
theorem zc_bi {x x' y y' B : Nat} (hx : x ≤ 20) (hx' : x' ≤ 20) (hy : y ≤ B) (hy' : y' ≤ B) (hB : B < 2 ^ 30) (e1 : nI x' = nI x) (e2 : nI y' = nI y) : nI (x' - y') = nI (x - y) := by
  rw [zI_inj (by omega) (by omega) e1, zI_inj (by omega) (by omega) e2]
/-! isRead -/
theorem zp_pd {b L : Nat} {M M' : xm_T} (h : zp b M) (ho : ∀ x, x ≠ b + 825 → x ≠ b + 826 → b ≤ x → x < b + 827 → M' x = M x) (hL : L ≤ 60) (hM : M' (b + 825) 1 = nI L) : zp b M' := by
  obtain ⟨p1, ⟨n, p2, p3⟩, -⟩ := h
  exact ⟨fun k hk => ⟨by rw [ho _ (by omega) (by omega) (by omega) (by omega)]; exact (p1 k hk).1, by rw [ho _ (by omega) (by omega) (by omega) (by omega)]; exact (p1 k hk).2.1, fun i hi => by rw [ho _ (by omega) (by omega) (by omega) (by omega)]; exact (p1 k hk).2.2.1 i hi, fun i hi => by rw [ho _ (by omega) (by omega) (by omega) (by omega)]; exact (p1 k hk).2.2.2 i hi⟩, ⟨n, p2, by rw [ho _ (by omega) (by omega) (by omega) (by omega)]; exact p3⟩, L, hL, hM⟩
def zR (b c : Nat) (M : xm_T) (m : Nat → Nat) (e : Nat → Nat → Nat) (k : Nat) (z : xm_T) : Prop := zp b z ∧ zp c z ∧ (∀ x, ((b + 1 ≤ x ∧ x < b + 83) ∨ (b + 659 ≤ x ∧ x < b + 825) ∨ (c + 659 ≤ x ∧ x < c + 825)) → z x = M x) ∧ zz_g (b + 1) (c + 1) (zm_al (b + 1) m e k M) z ∧ ∃ L, (k = 0 → L = 0) ∧ (0 < k → L + 1 = zt_s m k) ∧ L ≤ 60 ∧ z (b + 825) 1 = nI L ∧ zt (z (b + 826)) L m e
def zR2 (b c : Nat) (m : Nat → Nat) (e : Nat → Nat → Nat) (k j : Nat) (z z2 : xm_T) : Prop := (∀ x, x ≠ b + 825 → x ≠ b + 826 → x ≠ c + 825 → x ≠ c + 826 → z2 x = z x) ∧ z2 (b + 825) 1 = nI (zt_s m k + j) ∧ zt (z2 (b + 826)) (zt_s m k + j) m e ∧ z2 (c + 825) 1 = nI j ∧ zt (z2 (c + 826)) j (fun _ => m k) (fun _ => e k)
theorem zR_0 {b c N : Nat} {M : xm_T} {m : Nat → Nat} {e : Nat → Nat → Nat} (hbc : b + 827 ≤ c) (h : zL b c N M) : zR b c M m e 0 (xu_p M (b + 825) 1 (nI 0)) := by
  obtain ⟨h1, h2, -, h4, -⟩ := h
  have o : ∀ x, x ≠ b + 825 → xu_p M (b + 825) 1 (nI 0) x = M x := fun x hx => xr_n _ _ hx
  exact ⟨zp_pd h1 (fun x z1 _ _ _ => o x z1) (Nat.zero_le 60) (xu_s _ _ _ _), zp_fr h2 (fun x z1 _ => o x (by omega)), fun x hx => o x (by omega), h4.tr (zg_of (fun x z1 z2 => o x (by omega))), 0, fun _ => rfl, fun z => absurd z (Nat.lt_irrefl 0), Nat.zero_le 60, xu_s _ _ _ _, zt_0 _ _ _⟩
theorem zR2_0 {b c k : Nat} {M z : xm_T} {m : Nat → Nat} {e : Nat → Nat → Nat} (hbc : b + 827 ≤ c) (h : zR b c M m e k z) (hk : k = 0) : zR2 b c m e k 0 z (xu_p z (c + 825) 1 (nI 0)) := by
  obtain ⟨-, -, -, -, L, l1, -, -, l3, l4⟩ := h
  have o : ∀ x, x ≠ c + 825 → xu_p z (c + 825) 1 (nI 0) x = z x := fun x hx => xr_n _ _ hx
  have hl := l1 hk
  subst hk
  subst hl
  exact ⟨fun x _ _ z3 _ => o x z3, by rw [o _ (by omega)]; exact l3, by rw [o _ (by omega)]; exact l4, xu_s _ _ _ _, zt_0 _ _ _⟩
theorem zR2_c {b c k L : Nat} {M z z1 : xm_T} {m : Nat → Nat} {e : Nat → Nat → Nat} (hbc : b + 827 ≤ c) (h : zR b c M m e k z) (hk : 0 < k) (hL : z (b + 825) 1 = nI L) (hL60 : L ≤ 60) (ha : xf_app z z1 (b + 825) L 1 44) : zR2 b c m e k 0 z (xu_p z1 (c + 825) 1 (nI 0)) := by
  obtain ⟨-, -, -, -, L2, -, l2, l5, l3, l4⟩ := h
  obtain ⟨a1, a2, a3, a4⟩ := ha
  have o : ∀ x, x ≠ c + 825 → xu_p z1 (c + 825) 1 (nI 0) x = z1 x := fun x hx => xr_n _ _ hx
  have hs := l2 hk
  have e1 : L2 = L := zI_inj (by omega) (by omega) (l3.symm.trans hL)
  subst e1
  obtain ⟨i, rfl⟩ : ∃ i, k = i + 1 := ⟨k - 1, by omega⟩
  have hs2 : zt_s m (i + 1) = zt_s m i + m i + 1 := rfl
  have h9 : z1 (b + 826) L2 = nI 44 := (a3 0 (by omega)).trans zc_cc.2
  exact ⟨fun x z1 z2 z3 _ => by rw [o x z3]; exact a4 x z1 z2, by rw [o _ (by omega), ← hs]; exact a1, by rw [o _ (by omega), ← hs]; exact zt_c (f := z (b + 826)) (k := i) l4 (by omega) a2 h9, xu_s _ _ _ _, zt_0 _ _ _⟩
theorem zR2_1 {b c k j : Nat} {z z2 z3 z4 : xm_T} {m : Nat → Nat} {e : Nat → Nat → Nat} {c0 : Int64} (hbc : b + 827 ≤ c) (h : zR2 b c m e k j z z2) (hj : j < m k) (hc0 : xc_c c0 (nI 0) = nI (48 + e k j)) (h3 : xf_app z2 z3 (b + 825) (zt_s m k + j) 1 c0) (h4 : xf_app z3 z4 (c + 825) j 1 c0) : zR2 b c m e k (j + 1) z z4 := by
  obtain ⟨r1, r2, r3, r4, r5⟩ := h
  obtain ⟨a1, a2, a3, a4⟩ := h3
  obtain ⟨b1, b2, b3, b4⟩ := h4
  have e1 : z3 (b + 826) (zt_s m k + j) = nI (48 + e k j) := (a3 0 (by omega)).trans hc0
  have e2 : z4 (c + 826) j = nI (48 + e k j) := by
    have := b3 0 (by omega)
    rw [Nat.add_zero] at this
    exact this.trans hc0
  have e3 : z3 (c + 826) = z2 (c + 826) := a4 _ (by omega) (by omega)
  refine ⟨fun x q1 q2 q3 q4 => by rw [b4 x q3 q4, a4 x q1 q2]; exact r1 x q1 q2 q3 q4, by rw [b4 _ (by omega) (by omega)]; exact a1, by rw [b4 _ (by omega) (by omega)]; exact zt_d (f := z2 (b + 826)) (L := zt_s m k + j) r3 rfl hj a2 e1, b1, ?_⟩
  refine zt_d (f := z2 (c + 826)) (L := j) (k := 0) (j := j) r5 (by show j = 0 + j; omega) hj (fun i hi => ?_) e2
  rw [← e3]
  exact b2 i hi
theorem zR_1 {b c k : Nat} {M z z2 z3 : xm_T} {m : Nat → Nat} {e : Nat → Nat → Nat} (hbc : b + 827 ≤ c) (h : zR b c M m e k z) (h2 : zR2 b c m e k (m k) z z2) (hs : zt_s m k + m k ≤ 60) (hq : zq c z2 z3 (zm_al (c + 1) (fun _ => m k) (fun _ => e k) 1 z2)) : zR b c M m e (k + 1) z3 := by
  obtain ⟨p1, p2, p3, p4, -⟩ := h
  obtain ⟨r1, r2, r3, r4, r5⟩ := h2
  obtain ⟨q1, q2, q3, q4⟩ := hq
  have g1 : zz_g (c + 1) (c + 1) z z2 := zg_of (fun x y1 y2 => r1 x (by omega) (by omega) (by omega) (by omega))
  have g2 : zz_g (b + 1) (c + 1) (zm_al (b + 1) m e (k + 1) M) (zm_al (c + 1) (fun _ => m k) (fun _ => e k) 1 z2) := (zZ_ad (zZ_rf (p4.tr g1)) rfl (fun _ _ => rfl)).1
  have g3 : zz_g (c + 1) (c + 1) (zm_al (c + 1) (fun _ => m k) (fun _ => e k) 1 z2) z3 := zg_of (fun x y1 y2 => q3 x y1 (by omega))
  have hb : zp b z2 := zp_pd p1 (fun x y1 y2 y3 y4 => r1 x y1 y2 (by omega) (by omega)) hs r2
  refine ⟨zp_fr hb (fun x y1 y2 => q2 x (by omega)), q1, fun x hx => ?_, g2.tr g3, zt_s m k + m k, fun y => absurd y (Nat.succ_ne_zero k), fun _ => rfl, hs, by rw [q2 _ (by omega)]; exact r2, by rw [q2 _ (by omega)]; exact r3⟩
  rw [← p3 x hx, ← r1 x (by omega) (by omega) (by omega) (by omega)]
  by_cases hc : x < c
  · exact q2 x (by omega)
  · exact q4 x (by omega) (by omega)
theorem zR_n {b c k N n T : Nat} {M z z3 : xm_T} {m : Nat → Nat} {e : Nat → Nat → Nat} (hbc : b + 827 ≤ c) (hL : zL b c N M) (hz : zi (b + 1) M n T T (20 + 14256 * N)) (hT : T ≤ 99 * N) (hv : zt_v k m e) (hn : n + k ≤ 24) (h : zR b c M m e k z) (hq : zq b z z3 (zm_al (b + 1) m e k z)) : zL b c (N + 1) z3 := by
  obtain ⟨-, -, -, -, hs⟩ := hL
  obtain ⟨p1, p2, p3, p4, -⟩ := h
  obtain ⟨q1, q2, q3, q4⟩ := hq
  have g0 : zz_g (b + 1) (b + 1) M z := zg_of (fun x y1 y2 => p3 x (by omega))
  have g1 : zz_g (b + 1) (b + 1) (zm_al (b + 1) m e k M) (zm_al (b + 1) m e k z) := (zZ_al (zZ_rf g0) k (fun _ _ => ⟨rfl, fun _ _ => rfl⟩)).1
  have g2 : zz_g (b + 1) (b + 1) (zm_al (b + 1) m e k z) z3 := zg_of (fun x y1 y2 => q3 x y1 (by omega))
  have g3 : zz_g (c + 1) (c + 1) z z3 := zg_of (fun x y1 y2 => q2 x (by omega))
  have hz1 : zL_z (b + 1) (N + 1) (zm_al (b + 1) m e k M) := ⟨n + k, T, by omega, (zi_al hz k hv hn).mono (Nat.le_refl T) (by omega)⟩
  exact ⟨q1, zp_fr p2 (fun x y1 y2 => q2 x (by omega)), hz1.g (g1.tr g2), ((g1.tr g2).sym.tr p4).tr g3, fun i hi => zL_sk (hs i hi) (Nat.le_succ N) hi (fun x y1 y2 => by rw [q4 x y1 y2, p3 x (by omega)]) (fun x y1 y2 => by rw [q2 x (by omega), p3 x (by omega)])⟩
/-- who came last -/
theorem zad_r {a n T G B m : Nat} {e : Nat → Int32} {M : xm_T} (h : zi a M n T G B) (hn : n < 24) : zm_ad a m e M (a + 2 * n + 34) 2 = nI m ∧ zm_ad a m e M (a + 2 * n + 34) 3 = nI 0 ∨ ¬ zm_wz (zm_a0 a n m e M) (a + 2 * n + 34) < 6 := by
  by_cases q : zm_wz (zm_a0 a n m e M) (a + 2 * n + 34) < 6
  · left
    have en : (M a 3).toNatClampNeg = n := by rw [h.1.2.1, nI_clamp (by omega)]
    unfold zm_ad
    rw [en, if_pos hn]
    unfold zm_jn
    rw [if_pos q]
    refine ⟨?_, ?_⟩
    · rw [zl_ap_o (by omega) (by omega), xu_n _ (Or.inr (by decide)), xu_n _ (Or.inr (by decide))]
      unfold zm_a0
      exact xu_s _ _ _ _
    · rw [zl_ap_o (by omega) (by omega), xu_n _ (Or.inr (by decide)), xu_s]
  · exact Or.inr q
theorem zad_w {a n T G B m : Nat} {e : Nat → Int32} {M : xm_T} (h : zi a M n T G B) (hn : n < 24) (hm : 0 < m) (he : ∃ w, w < 6 ∧ e 0 = nI w) : zm_ad a m e M (a + 2 * n + 34) 2 = nI m ∧ zm_ad a m e M (a + 2 * n + 34) 3 = nI 0 := by
  refine (zad_r h hn).resolve_right (fun q => q ?_)
  obtain ⟨w, hw, e0⟩ := he
  have f4 := (h.2.2.1 n (Nat.le_refl n) hn).2.2.1
  have h4 : zm_a0 a n m e M (a + 2 * n + 34) 4 = nI 0 := by
    unfold zm_a0
    rw [xu_n _ (Or.inr (by decide)), xr_n _ _ (by omega), xu_n _ (Or.inl (by omega))]
    exact f4
  have h5 : zm_a0 a n m e M (a + 2 * n + 34 + 1) 0 = nI w := by
    unfold zm_a0
    rw [xu_n _ (Or.inl (by omega)), show a + 2 * n + 34 + 1 = a + 2 * n + 35 by omega, xr_s, if_pos hm]
    exact e0
  unfold zm_wz
  rw [h4, nI_clamp (by omega), h5, nI_clamp (by omega)]
  exact hw
/-- the last digit that was drawn -/
def zd_l (x y : Int32) (k : Nat) : Nat → Int32
  | 0 => -1
  | j + 1 => nI (zd_e x y k j)
