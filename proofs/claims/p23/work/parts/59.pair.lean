/-! TWO OBJECTS, AT b AND AT c: ALIKE -/
def zL_s (b c N : Nat) (M : xm_T) (i : Nat) : Prop := M (c + 824) i = M (b + 824) i ∧ (¬ M (b + 824) i = 0 → zz_g (b + 82 * i + 660) (c + 82 * i + 660) M M ∧ ∃ n T, T ≤ 99 * N ∧ zi (b + 82 * i + 660) M n T T (20 + 14256 * N))
def zL_z (a N : Nat) (M : xm_T) : Prop := ∃ n T, T ≤ 99 * N ∧ zi a M n T T (20 + 14256 * N)
def zL (b c N : Nat) (M : xm_T) : Prop := zp b M ∧ zp c M ∧ zL_z (b + 1) N M ∧ zz_g (b + 1) (c + 1) M M ∧ ∀ i, i < 2 → zL_s b c N M i
theorem zp_fr {b : Nat} {M M' : xm_T} (h : zp b M) (ho : ∀ x, b ≤ x → x < b + 827 → M' x = M x) : zp b M' := by
  obtain ⟨p1, ⟨n, p2, p3⟩, L, p4, p5⟩ := h
  exact ⟨fun k hk => ⟨by rw [ho _ (by omega) (by omega)]; exact (p1 k hk).1, by rw [ho _ (by omega) (by omega)]; exact (p1 k hk).2.1, fun i hi => by rw [ho _ (by omega) (by omega)]; exact (p1 k hk).2.2.1 i hi, fun i hi => by rw [ho _ (by omega) (by omega)]; exact (p1 k hk).2.2.2 i hi⟩, ⟨n, p2, by rw [ho _ (by omega) (by omega)]; exact p3⟩, L, p4, by rw [ho _ (by omega) (by omega)]; exact p5⟩
theorem zg_of {a : Nat} {M M' : xm_T} (h : ∀ x, a ≤ x → x < a + 82 → M' x = M x) : zz_g a a M M' := fun c hc => (h _ (by omega) (by omega)).symm
theorem zL_z.mono {a N N' : Nat} {M : xm_T} (h : zL_z a N M) (hN : N ≤ N') : zL_z a N' M := by
  obtain ⟨n, T, hT, hz⟩ := h
  exact ⟨n, T, by omega, hz.mono (Nat.le_refl T) (by omega)⟩
theorem zL_z.g {a a' N : Nat} {M M' : xm_T} (h : zL_z a N M) (hg : zz_g a a' M M') : zL_z a' N M' := by
  obtain ⟨n, T, hT, hz⟩ := h
  exact ⟨n, T, hT, zi_g hz hg⟩
/-- the slots behind a step that leaves the slots' cells -/
theorem zL_sk {b c N N' i : Nat} {M M' : xm_T} (h : zL_s b c N M i) (hN : N ≤ N') (hi : i < 2) (hb : ∀ x, b + 659 ≤ x → x < b + 825 → M' x = M x) (hc : ∀ x, c + 659 ≤ x → x < c + 825 → M' x = M x) : zL_s b c N' M' i := by
  refine ⟨by rw [hb (b + 824) (by omega) (by omega), hc (c + 824) (by omega) (by omega)]; exact h.1, fun q => ?_⟩
  rw [hb _ (by omega) (by omega)] at q
  obtain ⟨h1, h2⟩ := h.2 q
  have g1 : zz_g (b + 82 * i + 660) (b + 82 * i + 660) M M' := zg_of (fun x z1 z2 => hb x (by omega) (by omega))
  have g2 : zz_g (c + 82 * i + 660) (c + 82 * i + 660) M M' := zg_of (fun x z1 z2 => hc x (by omega) (by omega))
  exact ⟨(g1.sym.tr h1).tr g2, (zL_z.mono h2 hN).g g1⟩
theorem zL_chg {b c N : Nat} {M M1 M2 N1 N2 : xm_T} (hbc : b + 827 ≤ c) (h : zL b c N M) (q1 : zq b M M1 N1) (q2 : zq c M1 M2 N2) (hg : zz_g (b + 1) (c + 1) N1 N2) (hz : zL_z (b + 1) (N + 1) N1) : zL b c (N + 1) M2 := by
  obtain ⟨-, -, -, -, hs⟩ := h
  obtain ⟨a1, a2, a3, a4⟩ := q1
  obtain ⟨b1, b2, b3, b4⟩ := q2
  have g1 : zz_g (b + 1) (b + 1) N1 M2 := zg_of (fun x z1 z2 => by rw [b2 x (by omega), a3 x (by omega) (by omega)])
  have g2 : zz_g (c + 1) (c + 1) N2 M2 := zg_of (fun x z1 z2 => b3 x (by omega) (by omega))
  exact ⟨zp_fr a1 (fun x z1 z2 => b2 x (by omega)), b1, hz.g g1, (g1.sym.tr hg).tr g2, fun i hi => zL_sk (hs i hi) (Nat.le_succ N) hi (fun x z1 z2 => by rw [b2 x (by omega), a4 x (by omega) (by omega)]) (fun x z1 z2 => by rw [b4 x (by omega) (by omega), a2 x (by omega)])⟩
/-- what is now is alike on both sides, a step of the first object behind -/
theorem zL_g1 {b c : Nat} {M M1 N1 : xm_T} (hbc : b + 827 ≤ c) (hg : zz_g (b + 1) (c + 1) M M) (q1 : zq b M M1 N1) : zz_g (b + 1) (c + 1) M M1 := fun i hi => (hg i hi).trans (q1.2.1 _ (by omega)).symm
theorem zL_ask {b c N : Nat} {M M' : xm_T} (h : zL b c N M) (hpb : zp b M') (hpc : zp c M') (ho : ∀ x, (b + 1 ≤ x ∧ x < b + 83) ∨ (b + 659 ≤ x ∧ x < b + 825) ∨ (c + 1 ≤ x ∧ x < c + 83) ∨ (c + 659 ≤ x ∧ x < c + 825) → M' x = M x) : zL b c N M' := by
  obtain ⟨-, -, hz, hg, hs⟩ := h
  have g1 : zz_g (b + 1) (b + 1) M M' := zg_of (fun x z1 z2 => ho x (by omega))
  have g2 : zz_g (c + 1) (c + 1) M M' := zg_of (fun x z1 z2 => ho x (by omega))
  exact ⟨hpb, hpc, hz.g g1, (g1.sym.tr hg).tr g2, fun i hi => zL_sk (hs i hi) (Nat.le_refl N) hi (fun x z1 z2 => ho x (by omega)) (fun x z1 z2 => ho x (by omega))⟩
theorem zL_up {b c N : Nat} {M : xm_T} (h : zL b c N M) : zL b c (N + 1) M := by
  obtain ⟨h1, h2, h3, h4, h5⟩ := h
  exact ⟨h1, h2, h3.mono (Nat.le_succ N), h4, fun i hi => zL_sk (h5 i hi) (Nat.le_succ N) hi (fun _ _ _ => rfl) (fun _ _ _ => rfl)⟩
/-- a slot is written: one object -/
def zv (b : Nat) (M : xm_T) (i : Nat) : xm_T := xu_p (xf_cp M (b + 82 * i + 660) (b + 1) 82) (b + 824) i (nI 1)
theorem zv_o {b i x : Nat} {M : xm_T} (hi : i < 2) (hx : x ≠ b + 824) (h2 : x < b + 82 * i + 660 ∨ b + 82 * i + 742 ≤ x) : zv b M i x = M x := by
  unfold zv xu_p
  rw [xr_n _ _ hx, xf_out (by omega)]
theorem zv_g {b i : Nat} {M : xm_T} (hi : i < 2) : zz_g (b + 1) (b + 82 * i + 660) M (zv b M i) := fun c hc => by
  unfold zv xu_p
  rw [xr_n _ _ (by omega), xf_in (by omega), show b + 82 * i + 660 + c - (b + 82 * i + 660) + (b + 1) = b + 1 + c by omega]
theorem zv_f {b i j : Nat} {M : xm_T} (hi : i < 2) : zv b M i (b + 824) j = if j = i then nI 1 else M (b + 824) j := by
  unfold zv
  by_cases q : j = i
  · subst q; rw [xu_s, if_pos rfl]
  · rw [xu_n _ (Or.inr q), if_neg q, xf_out (by omega)]
theorem zv_p {b i : Nat} {M : xm_T} (hi : i < 2) (h : zp b M) : zp b (zv b M i) := by
  obtain ⟨p1, ⟨n, p2, p3⟩, L, p4, p5⟩ := h
  have o : ∀ x, x ≠ b + 824 → (x < b + 82 * i + 660 ∨ b + 82 * i + 742 ≤ x) → zv b M i x = M x := fun x h1 h2 => zv_o hi h1 h2
  refine ⟨fun k hk => ⟨by rw [o _ (by omega) (by omega)]; exact (p1 k hk).1, by rw [o _ (by omega) (by omega)]; exact (p1 k hk).2.1, fun j hj => by rw [o _ (by omega) (by omega)]; exact (p1 k hk).2.2.1 j hj, fun j hj => ?_⟩, ⟨n, p2, by rw [o _ (by omega) (by omega)]; exact p3⟩, L, p4, by rw [o _ (by omega) (by omega)]; exact p5⟩
  by_cases q : j = i
  · subst q
    have e := zv_g (b := b) (M := M) hi (2 * k + 34) (by omega)
    rw [show b + 82 * j + 660 + 2 * k + 34 = b + 82 * j + 660 + (2 * k + 34) by omega, ← e, show b + 1 + (2 * k + 34) = b + 1 + 2 * k + 34 by omega]
    exact (p1 k hk).1
  · rw [o _ (by omega) (by omega)]; exact (p1 k hk).2.2.2 j hj
theorem zL_sav {b c N i : Nat} {M : xm_T} (hbc : b + 827 ≤ c) (hi : i < 2) (h : zL b c N M) : zL b c (N + 1) (zv c (zv b M i) i) := by
  obtain ⟨h1, h2, h3, h4, h5⟩ := zL_up h
  have ob : ∀ x, x < b ∨ b + 827 ≤ x → zv b M i x = M x := fun x hx => zv_o hi (by omega) (by omega)
  have oc : ∀ x, x < c ∨ c + 827 ≤ x → zv c (zv b M i) i x = zv b M i x := fun x hx => zv_o hi (by omega) (by omega)
  have g1 : zz_g (b + 1) (b + 1) M (zv c (zv b M i) i) := zg_of (fun x z1 z2 => by rw [oc x (by omega), zv_o hi (by omega) (by omega)])
  have g2 : zz_g (c + 1) (c + 1) M (zv c (zv b M i) i) := zg_of (fun x z1 z2 => by rw [zv_o hi (by omega) (by omega), ob x (by omega)])
  refine ⟨zp_fr (zv_p hi h1) (fun x z1 z2 => oc x (by omega)), zv_p hi (zp_fr h2 (fun x z1 z2 => ob x (by omega))), h3.g g1, (g1.sym.tr h4).tr g2, fun j hj => ?_⟩
  have s1 : zz_g (b + 1) (b + 82 * i + 660) M (zv c (zv b M i) i) := (zv_g hi).tr (zg_of (fun x z1 z2 => oc x (by omega)))
  have s2 : zz_g (c + 1) (c + 82 * i + 660) M (zv c (zv b M i) i) := (zg_of (a := c + 1) (M := M) (M' := zv b M i) (fun x z1 z2 => ob x (by omega))).tr (zv_g hi)
  by_cases q : j = i
  · subst q
    refine ⟨by rw [zv_f hi, if_pos rfl, oc _ (by omega), zv_f hi, if_pos rfl], fun _ => ⟨(s1.sym.tr h4).tr s2, h3.g s1⟩⟩
  · have e1 : zv c (zv b M i) i (b + 824) j = M (b + 824) j := by rw [oc _ (by omega), zv_f hi, if_neg q]
    have e2 : zv c (zv b M i) i (c + 824) j = M (c + 824) j := by rw [zv_f hi, if_neg q, ob _ (by omega)]
    obtain ⟨r1, r2⟩ := h5 j hj
    refine ⟨by rw [e1, e2]; exact r1, fun z => ?_⟩
    rw [e1] at z
    obtain ⟨r3, r4⟩ := r2 z
    have t1 : zz_g (b + 82 * j + 660) (b + 82 * j + 660) M (zv c (zv b M i) i) := zg_of (fun x z1 z2 => by rw [oc x (by omega), zv_o hi (by omega) (by omega)])
    have t2 : zz_g (c + 82 * j + 660) (c + 82 * j + 660) M (zv c (zv b M i) i) := zg_of (fun x z1 z2 => by rw [zv_o hi (by omega) (by omega), ob x (by omega)])
    exact ⟨(t1.sym.tr r3).tr t2, zL_z.g r4 t1⟩
/-! the law's drawing -/
def zu_u (v : Int32) (n : Nat) : Nat := v.toBitVec.toNat % 2 ^ 31 % n
theorem zu_lt {v : Int32} {n : Nat} (hn : 0 < n) : zu_u v n < n := Nat.mod_lt _ hn
theorem zu_up (v : Int32) {n : Nat} (h0 : 0 < n) (hn : n < 2 ^ 31) : (v &&& nI 2147483647) - (v &&& nI 2147483647) / nI n * nI n = nI (zu_u v n) := by
  rw [pk_and v (m := nI 2147483647) 31 (by decide)]
  exact pk_rem (Nat.mod_lt _ (by decide)) h0 hn
/-- the length and the digits of the law's errands -/
def zd_z (x y k : Int32) : Int32 := (x >>> ((nI 2 * k) &&& 31)) ^^^ (y >>> ((nI 3 * k) &&& 31))
def zd_m (x y : Int32) (k : Nat) : Nat := 1 + zu_u (zd_z x y (nI k)) (if zu_u (zd_z x y (nI k) >>> (nI 9 &&& 31)) 5 = 0 then 8 else 4)
def zd_e (x y : Int32) (k : Nat) : Nat → Nat
  | 0 => zu_u (zd_z x y (nI k) >>> (nI 0 &&& 31)) 6
  | j + 1 => if zd_e x y k j ≤ zu_u (zd_z x y (nI k) >>> (nI (j + 1) &&& 31)) 5 then zu_u (zd_z x y (nI k) >>> (nI (j + 1) &&& 31)) 5 + 1 else zu_u (zd_z x y (nI k) >>> (nI (j + 1) &&& 31)) 5
theorem zd_m1 (x y : Int32) (k : Nat) : 1 ≤ zd_m x y k ∧ zd_m x y k ≤ 8 := by
  unfold zd_m
  split
  · have := zu_lt (v := zd_z x y (nI k)) (n := 8) (by omega); omega
  · have := zu_lt (v := zd_z x y (nI k)) (n := 4) (by omega); omega
theorem zd_e6 (x y : Int32) (k : Nat) : ∀ j, zd_e x y k j < 6
  | 0 => zu_lt (by omega)
  | j + 1 => by
    have h := zu_lt (v := zd_z x y (nI k) >>> (nI (j + 1) &&& 31)) (n := 5) (by omega)
    show (if zd_e x y k j ≤ zu_u (zd_z x y (nI k) >>> (nI (j + 1) &&& 31)) 5 then zu_u (zd_z x y (nI k) >>> (nI (j + 1) &&& 31)) 5 + 1 else zu_u (zd_z x y (nI k) >>> (nI (j + 1) &&& 31)) 5) < 6
    split <;> omega
theorem zd_en (x y : Int32) (k j : Nat) : zd_e x y k j ≠ zd_e x y k (j + 1) := by
  show _ ≠ (if zd_e x y k j ≤ zu_u (zd_z x y (nI k) >>> (nI (j + 1) &&& 31)) 5 then zu_u (zd_z x y (nI k) >>> (nI (j + 1) &&& 31)) 5 + 1 else zu_u (zd_z x y (nI k) >>> (nI (j + 1) &&& 31)) 5)
  split <;> omega
theorem zd_v (x y : Int32) (N : Nat) : zt_v N (zd_m x y) (zd_e x y) := fun k _ => ⟨(zd_m1 x y k).1, (zd_m1 x y k).2, fun j _ => zd_e6 x y k j, fun j _ => zd_en x y k j⟩
theorem zd_s (x y : Int32) : ∀ k, zt_s (zd_m x y) k ≤ 9 * k
  | 0 => Nat.le_refl 0
  | k + 1 => by
    have h1 := zd_s x y k
    have h2 := (zd_m1 x y k).2
    show zt_s (zd_m x y) k + zd_m x y k + 1 ≤ 9 * (k + 1)
    omega
theorem zc_cs {d : Nat} (h : d < 6) : xc_n (nI (48 + d)).toInt64 = nI 1 ∧ xc_c (nI (48 + d)).toInt64 (nI 0) = nI (48 + d) := by
  rcases (show d = 0 ∨ d = 1 ∨ d = 2 ∨ d = 3 ∨ d = 4 ∨ d = 5 by omega) with q | q | q | q | q | q <;> subst q <;> decide +kernel
theorem zc_cc : xc_n 44 = nI 1 ∧ xc_c 44 (nI 0) = nI 44 := by decide +kernel
theorem zc_c0 : xc_n 48 = nI 1 ∧ xc_c 48 (nI 0) = nI 48 := by decide +kernel
