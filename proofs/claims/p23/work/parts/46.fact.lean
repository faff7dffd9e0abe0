/-! WHAT THE WALKS TAKE OUT OF IT -/
theorem xf_at_n {M : xm_T} {q L j : Nat} {v : Int32} (hM : M q 1 = nI L) (hj : j < L) (hL : L ≤ 24) (hv : M (q + 1) j = v) : xf_at M q (nI j) = v := by
  unfold xf_at
  rw [if_neg (nI_pos (by omega)), hM, if_neg (nI_ge hj (by omega)), nI_clamp (by omega)]
  exact hv
theorem xf_at_e {M : xm_T} {q : Nat} (h : M q 1 = nI 0) (i : Int32) : xf_at M q i = -6 := by
  unfold xf_at
  by_cases h1 : i < 0
  · rw [if_pos h1]
  · rw [if_neg h1, h, if_pos (by rw [nI_0]; exact Int32.not_lt.mp h1)]
theorem xf_per_6 (M : xm_T) (a : Nat) : xf_per M a (-6) = none := by
  unfold xf_per
  rw [if_pos (by decide)]
theorem xf_per_s {M : xm_T} {a n k : Nat} (hM : M a 3 = nI n) (hn : n ≤ 24) (hk : k < n) : xf_per M a (nI k) = some (a + 2 * k + 34) := by
  unfold xf_per
  rw [if_neg (nI_pos (by omega)), hM, if_neg (nI_ge hk (by omega)), if_neg (nI_ge (by omega) (by omega)), nI_clamp (by omega)]
theorem xf_per_n {M : xm_T} {a n k : Nat} (hM : M a 3 = nI n) (hk : n ≤ k) (hk2 : k < 2 ^ 31) : xf_per M a (nI k) = none := by
  unfold xf_per
  rw [if_neg (nI_pos hk2), hM, if_pos (nI_le hk hk2)]
theorem xd_1 {D : Int32} {k : Nat} (h : k < D.toNatClampNeg) : ¬ D ≤ nI k := by
  by_cases hD : D < 0
  · have h1 : D.toInt < 0 := Int32.lt_iff_toInt_lt.mp hD
    have h2 : k < D.toInt.toNat := h
    omega
  · obtain ⟨j, hj, rfl⟩ := nI_of hD
    rw [nI_clamp hj] at h
    exact nI_ge h hj
theorem xd_2 (D : Int32) : D ≤ nI D.toNatClampNeg := by
  by_cases hD : D < 0
  · have h1 : D.toInt < 0 := Int32.lt_iff_toInt_lt.mp hD
    have h2 : D.toNatClampNeg = 0 := by show D.toInt.toNat = 0; omega
    rw [h2, nI_0]
    exact Int32.le_of_lt hD
  · obtain ⟨j, hj, rfl⟩ := nI_of hD
    rw [nI_clamp hj]
    exact nI_le (Nat.le_refl j) hj
theorem zi_sn {a n T G B w j L : Nat} {M : xm_T} (h : zi a M n T G B) (hw : w < 6) (hL : M (a + 5 * w + 7) 1 = nI L) (hL24 : L ≤ 24) (hjL : j < L) : ∃ k m t, k < n ∧ M (a + 5 * w + 8) j = nI k ∧ M (a + 2 * k + 34) 0 = nI k ∧ M (a + 2 * k + 34) 2 = nI m ∧ M (a + 2 * k + 34) 4 = nI t ∧ t < m ∧ m ≤ 8 ∧ (∀ i, i < m → ∃ u, u < 6 ∧ M (a + 2 * k + 35) i = nI u) ∧ ∀ u, u < 6 → ∃ L, L < 24 ∧ M (a + 5 * u + 5) 1 = nI L := by
  obtain ⟨Q, R, hold⟩ := h.2.2.2.2.2.1
  have hn := h.n
  have hR := (hold w hw).2.1
  have hLR : (R w).length = L := by have := hR.1; exact zI_inj (by omega) (by omega) (hR.2.1.symm.trans hL)
  have hj : (R w)[j]? = some (R w)[j] := List.getElem?_eq_getElem (by omega)
  generalize (R w)[j] = k at hj
  obtain ⟨hkn, hk1, hkw⟩ := ((hold w hw).2.2.2.2.2 k).mp (List.mem_of_getElem? hj)
  obtain ⟨m, t, p1, p2, p3, p4, p5, p6⟩ := h.2.2.2.1 k hkn
  have pt : t < m := by
    rcases p6 with q | q | q
    · exact q.2.1
    · exact absurd (hk1.symm.trans q.1) (by decide)
    · exact absurd (hk1.symm.trans q.1) (by decide)
  refine ⟨k, m, t, hkn, hR.2.2 _ _ hj, h.2.1 k (by omega), p3, p4, pt, p2, p5, fun u hu => ?_⟩
  have hkQ : k ∉ Q u := fun z => zn_01 ((((hold u hu).2.2.2.2.1 k).mp z).2.1.symm.trans hk1)
  exact ⟨_, zl_room (hold u hu).2.2.1 ((hold u hu).q hn) (by omega) hkQ, (hold u hu).1.2.1⟩
theorem zi_hn {a n T G B w : Nat} {M : xm_T} (h : zi a M n T G B) (hw : w < 6) (hc : ¬ M (a + 5 * w + 5) 1 = nI 0) : ∃ k, zm_cp a w M = k ∧ k < n ∧ M (a + 5 * w + 6) 0 = nI k ∧ M (a + 2 * k + 34) 0 = nI k ∧ (∃ L, L < 24 ∧ M (a + 5 * w + 7) 1 = nI L) ∧ zi a (zm_c2 a w k M) n T G B := by
  obtain ⟨Q, R, hold, hj, hkn, hnum⟩ := zi_hd h hw hc
  have hn := h.n
  refine ⟨zm_cp a w M, rfl, hkn, hnum, h.2.1 _ (by omega), ?_, zi_c2 h hw hold hj⟩
  have hk1 := (((hold w hw).2.2.2.2.1 _).mp (List.mem_of_getElem? hj)).2.1
  have hkR : zm_cp a w M ∉ R w := fun z => zn_01 (hk1.symm.trans (((hold w hw).2.2.2.2.2 _).mp z).2.1)
  exact ⟨_, zl_room (hold w hw).2.2.2.1 ((hold w hw).r hn) (by omega) hkR, (hold w hw).2.1.2.1⟩
theorem zi_wn {a n T G B k : Nat} {M : xm_T} (h : zi a M n T G B) (hkn : k < n) (hq : M (a + 2 * k + 34) 3 = nI 0) : ∃ t m w L, zk_at M (a + 2 * k + 34) t m w ∧ L ≤ 24 ∧ M (a + 5 * w + 5) 1 = nI L := by
  obtain ⟨t, m, w, hat⟩ := (h.2.2.2.1 k hkn).at (Or.inl hq)
  obtain ⟨L, hL, hL2⟩ := zi_Lq h hat.2.2.2.2.2
  exact ⟨t, m, w, L, hat, hL, hL2⟩
theorem zw_s {a k : Nat} {M : xm_T} (hk : k < 24) : zm_w1 a k M (a + 1) = M (a + 1) := by
  have h0 : zm_w0 a k M (a + 1) = M (a + 1) := by unfold zm_w0 xu_p; rw [xr_n _ _ (by omega), xr_n _ _ (by omega)]
  unfold zm_w1
  split
  · split
    · unfold zm_sa
      split
      · unfold zm_go xu_p
        rw [xr_n _ _ (by omega), xr_n _ _ (by omega), xr_n _ _ (by omega), xr_n _ _ (by omega), zl_rv_o (by omega) (by omega)]
        exact h0
      · exact h0
    · exact h0
  · rfl
theorem zw_fs {a : Nat} {M : xm_T} : ∀ (i : Nat), i ≤ 24 → zm_fo (zm_w1 a) i M (a + 1) = M (a + 1)
  | 0, _ => rfl
  | i + 1, h => by
    show zm_w1 a i (zm_fo (zm_w1 a) i M) (a + 1) = _
    rw [zw_s (by omega), zw_fs i (by omega)]
theorem zm_cl_stop {a w : Nat} {M : xm_T} (h : zm_c0 a w M) : ∀ N, zm_cl a w N M = M
  | 0 => rfl
  | N + 1 => if_pos h
