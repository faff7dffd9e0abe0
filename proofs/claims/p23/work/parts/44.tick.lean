/-! CALLS, WAITS, COMINGS; A TICK KEEPS IT -/
theorem zi_c2 {a n T G B w k : Nat} {M : xm_T} {Q R : Nat → List Nat} (h : zi a M n T G B) (hw : w < 6) (hold : ∀ v, v < 6 → zi_Lw a n M v (Q v) (R v)) (hj : (Q w)[0]? = some k) : zi a (zm_c2 a w k M) n T G B := by
  have hn := h.n
  obtain ⟨hkn, hk1, hkw⟩ := ((hold w hw).2.2.2.2.1 k).mp (List.mem_of_getElem? hj)
  have hk24 : k < 24 := by omega
  have hk0 := h.2.1 k hk24
  obtain ⟨Y, eY⟩ : ∃ Y, Y = zm_c2 a w k M := ⟨_, rfl⟩
  rw [← eY]
  unfold zm_c2 at eY
  rw [hk0] at eY
  have hkR : ∀ v, v < 6 → k ∉ R v := fun v hv z => by
    have := ((hold v hv).2.2.2.2.2 k).mp z
    exact zn_01 (hk1.symm.trans this.2.1)
  have yM : ∀ x, x ≠ a + 2 * k + 34 → x ≠ a + 5 * w + 5 → x ≠ a + 5 * w + 6 → x ≠ a + 5 * w + 7 → x ≠ a + 5 * w + 8 → Y x = M x := fun x h1 h2 h3 h4 h5 => by
    rw [eY]; unfold xu_p; rw [xr_n _ _ h1, xr_n _ _ h1, zl_ap_o h4 h5, zl_rv_o h2 h3]
  have yP : Y (a + 2 * k + 34) = upd (upd (M (a + 2 * k + 34)) 3 (nI 1)) 6 (nI 0) := by
    rw [eY]; unfold xu_p; rw [xr_s, xr_s, zl_ap_o (by omega) (by omega), zl_rv_o (by omega) (by omega)]
  have hlQ : zl_L Y (a + 5 * w + 5) ((Q w).eraseIdx 0) := by
    refine ((hold w hw).1.rv (hold w hw).2.2.1 ((hold w hw).q hn) hj).eq ?_ ?_
    · rw [eY]; unfold xu_p; rw [xr_n _ _ (by omega), xr_n _ _ (by omega), zl_ap_o (by omega) (by omega)]
    · rw [eY]; unfold xu_p; rw [xr_n _ _ (by omega), xr_n _ _ (by omega), zl_ap_o (by omega) (by omega)]
  have hlR : zl_L Y (a + 5 * w + 7) (R w ++ [k]) := by
    have g1 : zl_L (zl_rv (a + 5 * w + 5) (nI k) M) (a + 5 * w + 7) (R w) := (hold w hw).2.1.eq (by rw [zl_rv_o (by omega) (by omega)]) (by rw [zl_rv_o (by omega) (by omega)])
    refine (g1.ap (zl_room (hold w hw).2.2.2.1 ((hold w hw).r hn) hk24 (hkR w hw)) k).eq ?_ ?_
    · rw [eY]; unfold xu_p; rw [xr_n _ _ (by omega), xr_n _ _ (by omega)]
    · rw [eY]; unfold xu_p; rw [xr_n _ _ (by omega), xr_n _ _ (by omega)]
  have hp : ∀ i, i < 24 → i ≠ k → Y (a + 2 * i + 34) = M (a + 2 * i + 34) := fun i hi hik => yM _ (by omega) (by omega) (by omega) (by omega) (by omega)
  have he : ∀ i, i < 24 → Y (a + 2 * i + 35) = M (a + 2 * i + 35) := fun i hi => yM _ (by omega) (by omega) (by omega) (by omega) (by omega)
  have hA : Y a = M a := yM _ (by omega) (by omega) (by omega) (by omega) (by omega)
  have hV : ∀ v, v < 6 → Y (a + 5 * v + 4) = M (a + 5 * v + 4) := fun v hv => yM _ (by omega) (by omega) (by omega) (by omega) (by omega)
  have hY3 : Y (a + 2 * k + 34) 3 = nI 1 := by rw [yP]; rfl
  have hwz : zm_wz Y (a + 2 * k + 34) = w := by
    have : zm_wz Y (a + 2 * k + 34) = zm_wz M (a + 2 * k + 34) := by
      unfold zm_wz
      rw [yP, yM (a + 2 * k + 34 + 1) (by omega) (by omega) (by omega) (by omega) (by omega)]
      rfl
    rw [this, hkw]
  refine zi_mv h hkn hw (Nat.le_refl B) ⟨by rw [hA], by rw [hA], by rw [hA]⟩ (yM _ (by omega) (by omega) (by omega) (by omega) (by omega)) hp he (by rw [yP]; rfl) ?_ (fun v hv _ => hV v hv) (by rw [hV w hw]; exact h.2.2.2.2.1 w hw) ?_ (by rw [hV w hw, yP, hA]; rfl) (by rw [hV w hw, yP]; rfl) (by rw [hV w hw, yP]; rfl)
  · obtain ⟨m, t, p1, p2, p3, p4, p5, p6⟩ := h.2.2.2.1 k hkn
    rw [yP]
    refine ⟨m, t, p1, p2, p3, p4, p5, ?_⟩
    rcases p6 with q | q | q
    · exact Or.inl ⟨Or.inr rfl, q.2⟩
    · exact absurd (hk1.symm.trans q.1) (by decide)
    · exact absurd (hk1.symm.trans q.1) (by decide)
  · refine zi_lv (Q' := fun v => if v = w then (Q v).eraseIdx 0 else Q v) (R' := fun v => if v = w then R v ++ [k] else R v) hkn hn hold hp he (fun v hv => ?_)
    have no0 : ¬ (Y (a + 2 * k + 34) 3 = nI 0 ∧ zm_wz Y (a + 2 * k + 34) = v) := fun z => zn_10 (hY3.symm.trans z.1)
    by_cases q : v = w
    · subst q
      simp only [↓reduceIte]
      exact ⟨hlQ, hlR, zl_erN (hold v hv).2.2.1 0, zl_apN (hold v hv).2.2.2.1 (hkR v hv), fun i hi => by rw [zl_er (hold v hv).2.2.1 hj]; exact ⟨fun z => z.1, fun z => ⟨z, hi⟩⟩, fun i hi => by rw [List.mem_append, List.mem_singleton]; exact ⟨fun z => z.resolve_right hi, Or.inl⟩, ⟨fun z => absurd rfl ((zl_er (hold v hv).2.2.1 hj k).mp z).2, fun z => absurd z no0⟩, ⟨fun _ => ⟨hY3, hwz⟩, fun _ => List.mem_append.mpr (Or.inr (List.mem_singleton.mpr rfl))⟩⟩
    · simp only [if_neg q]
      exact ⟨(hold v hv).1.eq (by rw [yM _ (by omega) (by omega) (by omega) (by omega) (by omega)]) (yM _ (by omega) (by omega) (by omega) (by omega) (by omega)), (hold v hv).2.1.eq (by rw [yM _ (by omega) (by omega) (by omega) (by omega) (by omega)]) (yM _ (by omega) (by omega) (by omega) (by omega) (by omega)), (hold v hv).2.2.1, (hold v hv).2.2.2.1, fun i _ => by first | exact trivial | exact Iff.rfl, fun i _ => by first | exact trivial | exact Iff.rfl, ⟨fun z => absurd (hkw.symm.trans (((hold v hv).2.2.2.2.1 k).mp z).2.2).symm q, fun z => absurd z no0⟩, ⟨fun z => absurd z (hkR v hv), fun z => absurd (z.2.symm.trans hwz) q⟩⟩
theorem zi_sa {a n T G B k y : Nat} {M : xm_T} (h : zi a M n T G B) (hkn : k < n) (hk1 : M (a + 2 * k + 34) 3 = nI 0) (hy : y ≤ G) : zi a (zm_sa a k (nI y) M) n T G B := by
  have hn := h.n
  have hk24 : k < 24 := by omega
  have hk0 := h.2.1 k hk24
  obtain ⟨Q, R, hold⟩ := h.2.2.2.2.2.1
  obtain ⟨t, m, w, hat⟩ := (h.2.2.2.1 k hkn).at (Or.inl hk1)
  have hw := hat.2.2.2.2.2
  have hwzM := zk_wz hat
  obtain ⟨j, hj⟩ := List.getElem?_of_mem (((hold w hw).2.2.2.2.1 k).mpr ⟨hkn, hk1, hwzM⟩)
  obtain ⟨Y, eY⟩ : ∃ Y, Y = zm_sa a k (nI y) M := ⟨_, rfl⟩
  rw [← eY]
  unfold zm_sa at eY
  rw [hwzM, if_pos hw, hk0] at eY
  have hkR : ∀ v, v < 6 → k ∉ R v := fun v hv z => by
    have := ((hold v hv).2.2.2.2.2 k).mp z
    exact zn_01 (hk1.symm.trans this.2.1)
  have yM : ∀ x, x ≠ a → x ≠ a + 2 * k + 34 → x ≠ a + 5 * w + 5 → x ≠ a + 5 * w + 6 → Y x = M x := fun x h0 h1 h2 h3 => by
    rw [eY]; unfold zm_go xu_p; rw [xr_n _ _ h1, xr_n _ _ h1, xr_n _ _ h1, xr_n _ _ h0, zl_rv_o h2 h3]
  have yP : Y (a + 2 * k + 34) = upd (upd (upd (M (a + 2 * k + 34)) 3 (nI 3)) 5 (nI 0)) 10 (nI y) := by
    rw [eY]; unfold zm_go xu_p; rw [xr_s, xr_s, xr_s, xr_n _ _ (by omega), zl_rv_o (by omega) (by omega)]
  have yA : Y a = upd (M a) 5 (M a 5 + zm_h (M (a + 2 * k + 34) 5)) := by
    rw [eY]; unfold zm_go xu_p; rw [xr_n _ _ (by omega), xr_n _ _ (by omega), xr_n _ _ (by omega), xr_s, zl_rv_o (by omega) (by omega)]
  have hlQ : zl_L Y (a + 5 * w + 5) ((Q w).eraseIdx j) := by
    refine ((hold w hw).1.rv (hold w hw).2.2.1 ((hold w hw).q hn) hj).eq ?_ ?_
    · rw [eY]; unfold zm_go xu_p; rw [xr_n _ _ (by omega), xr_n _ _ (by omega), xr_n _ _ (by omega), xr_n _ _ (by omega)]
    · rw [eY]; unfold zm_go xu_p; rw [xr_n _ _ (by omega), xr_n _ _ (by omega), xr_n _ _ (by omega), xr_n _ _ (by omega)]
  have hp : ∀ i, i < 24 → i ≠ k → Y (a + 2 * i + 34) = M (a + 2 * i + 34) := fun i hi hik => yM _ (by omega) (by omega) (by omega) (by omega)
  have he : ∀ i, i < 24 → Y (a + 2 * i + 35) = M (a + 2 * i + 35) := fun i hi => yM _ (by omega) (by omega) (by omega) (by omega)
  have hV : ∀ v, v < 6 → Y (a + 5 * v + 4) = M (a + 5 * v + 4) := fun v hv => yM _ (by omega) (by omega) (by omega) (by omega)
  have hY3 : Y (a + 2 * k + 34) 3 = nI 3 := by rw [yP]; rfl
  refine zi_mv h hkn hw (Nat.le_refl B) ⟨by rw [yA]; rfl, by rw [yA]; rfl, by rw [yA]; rfl⟩ (yM _ (by omega) (by omega) (by omega) (by omega)) hp he (by rw [yP]; rfl) ?_ (fun v hv _ => hV v hv) (by rw [hV w hw]; exact h.2.2.2.2.1 w hw) ?_ ?_ (by rw [hV w hw, yP]; rfl) (by rw [hV w hw, yP]; rfl)
  · obtain ⟨m', t', p1, p2, p3, p4, p5, p6⟩ := h.2.2.2.1 k hkn
    rw [yP]
    refine ⟨m', t', p1, p2, p3, p4, p5, ?_⟩
    rcases p6 with q | q | q
    · exact Or.inr (Or.inr ⟨rfl, q.2.1, rfl, y, hy, rfl⟩)
    · exact absurd (hk1.symm.trans q.1) (by decide)
    · exact absurd (hk1.symm.trans q.1) (by decide)
  · refine zi_lv (Q' := fun v => if v = w then (Q v).eraseIdx j else Q v) (R' := R) hkn hn hold hp he (fun v hv => ?_)
    have no0 : ¬ (Y (a + 2 * k + 34) 3 = nI 0 ∧ zm_wz Y (a + 2 * k + 34) = v) := fun z => absurd (hY3.symm.trans z.1) (by decide)
    have no1 : ¬ (Y (a + 2 * k + 34) 3 = nI 1 ∧ zm_wz Y (a + 2 * k + 34) = v) := fun z => absurd (hY3.symm.trans z.1) (by decide)
    have hR : zl_L Y (a + 5 * v + 7) (R v) := (hold v hv).2.1.eq (by rw [yM _ (by omega) (by omega) (by omega) (by omega)]) (yM _ (by omega) (by omega) (by omega) (by omega))
    by_cases q : v = w
    · subst q
      simp only [↓reduceIte]
      exact ⟨hlQ, hR, zl_erN (hold v hv).2.2.1 j, (hold v hv).2.2.2.1, fun i hi => by rw [zl_er (hold v hv).2.2.1 hj]; exact ⟨fun z => z.1, fun z => ⟨z, hi⟩⟩, fun i _ => by first | exact trivial | exact Iff.rfl, ⟨fun z => absurd rfl ((zl_er (hold v hv).2.2.1 hj k).mp z).2, fun z => absurd z no0⟩, ⟨fun z => absurd z (hkR v hv), fun z => absurd z no1⟩⟩
    · simp only [if_neg q]
      exact ⟨(hold v hv).1.eq (by rw [yM _ (by omega) (by omega) (by omega) (by omega)]) (yM _ (by omega) (by omega) (by omega) (by omega)), hR, (hold v hv).2.2.1, (hold v hv).2.2.2.1, fun i _ => by first | exact trivial | exact Iff.rfl, fun i _ => by first | exact trivial | exact Iff.rfl, ⟨fun z => absurd (hwzM.symm.trans (((hold v hv).2.2.2.2.1 k).mp z).2.2).symm q, fun z => absurd z no0⟩, ⟨fun z => absurd z (hkR v hv), fun z => absurd z no1⟩⟩
  · rw [hV w hw, yP, yA]
    show M (a + 5 * w + 4) 2 + zm_h (nI 0) + (M a 5 + zm_h (M (a + 2 * k + 34) 5)) = _
    rw [zh_0 rfl, show nI 0 = 0 from rfl]
    grind
theorem zi_s1 {a n T G B w L : Nat} {z : xm_T × Nat} (h : zi a z.1 n T G B) (hT : T + 1 ≤ G) (hB : B + 1 < 2 ^ 31) (hw : w < 6) (hL : z.1 (a + 5 * w + 7) 1 = nI L) (hL24 : L ≤ 24) (hz : z.2 < L) :
    zi a (zm_s1 a w z).1 n T G (B + 1) ∧ ∃ L', L' ≤ 24 ∧ (zm_s1 a w z).1 (a + 5 * w + 7) 1 = nI L' ∧ L' + z.2 + 1 = L + (zm_s1 a w z).2 := by
  obtain ⟨Q, R, hold⟩ := h.2.2.2.2.2.1
  have hn := h.n
  have hR := (hold w hw).2.1
  have hLR : (R w).length = L := by have := hR.1; exact zI_inj (by omega) (by omega) (hR.2.1.symm.trans hL)
  have hj : (R w)[z.2]? = some (R w)[z.2] := List.getElem?_eq_getElem (by omega)
  generalize (R w)[z.2] = k at hj
  obtain ⟨hkn, hk1, hkw⟩ := ((hold w hw).2.2.2.2.2 k).mp (List.mem_of_getElem? hj)
  have hk24 : k < 24 := by omega
  have hnum : z.1 (a + 5 * w + 8) z.2 = nI k := hR.2.2 _ _ hj
  unfold zm_s1
  rw [hnum, nI_clamp (by omega), if_pos hk24]
  obtain ⟨M1, e1⟩ : ∃ M1, M1 = xu_p z.1 (a + 2 * k + 34) 6 (z.1 (a + 2 * k + 34) 6 + nI 1) := ⟨_, rfl⟩
  have o1 : ∀ x, x ≠ a + 2 * k + 34 → M1 x = z.1 x := fun x hx => by rw [e1]; exact xr_n _ _ hx
  have s1 : ∀ i, i ≠ 6 → M1 (a + 2 * k + 34) i = z.1 (a + 2 * k + 34) i := fun i hi => by rw [e1]; exact xu_n _ (Or.inr hi)
  have h1 : zi a M1 n T G B := by
    refine zi_mi h (fun x hx => o1 x (hx k hk24)) (fun k' hk' i hi => ?_)
    by_cases q : k' = k
    · subst q; exact s1 i (by omega)
    · rw [o1 _ (by omega)]
  unfold zm_s0
  rw [← e1]
  by_cases q : z.1 (a + 2 * k + 34) 6 + nI 1 < z.1 (a + 1) 0
  · rw [if_pos q]
    exact ⟨h1.mono (Nat.le_refl G) (Nat.le_succ B), L, hL24, by show M1 (a + 5 * w + 7) 1 = _; rw [o1 _ (by omega)]; exact hL, rfl⟩
  · rw [if_neg q, h.2.1 k hk24]
    have hold1 : ∀ v, v < 6 → zi_Lw a n M1 v (Q v) (R v) := fun v hv => by
      obtain ⟨f1, f2, f3, f4, f5, f6⟩ := hold v hv
      have g3 : ∀ i, i < n → M1 (a + 2 * i + 34) 3 = z.1 (a + 2 * i + 34) 3 ∧ zm_wz M1 (a + 2 * i + 34) = zm_wz z.1 (a + 2 * i + 34) := fun i hi => by
        by_cases q : i = k
        · subst q
          exact ⟨s1 3 (by decide), by unfold zm_wz; rw [s1 4 (by decide), o1 _ (by omega)]⟩
        · exact ⟨by rw [o1 _ (by omega)], by unfold zm_wz; rw [o1 _ (by omega), o1 _ (by omega)]⟩
      refine ⟨f1.eq (by rw [o1 _ (by omega)]) (o1 _ (by omega)), f2.eq (by rw [o1 _ (by omega)]) (o1 _ (by omega)), f3, f4, fun i => ?_, fun i => ?_⟩
      · rw [f5]
        exact ⟨fun z => ⟨z.1, by rw [(g3 i z.1).1, (g3 i z.1).2]; exact z.2⟩, fun z => ⟨z.1, by rw [← (g3 i z.1).1, ← (g3 i z.1).2]; exact z.2⟩⟩
      · rw [f6]
        exact ⟨fun z => ⟨z.1, by rw [(g3 i z.1).1, (g3 i z.1).2]; exact z.2⟩, fun z => ⟨z.1, by rw [← (g3 i z.1).1, ← (g3 i z.1).2]; exact z.2⟩⟩
    obtain ⟨r1, r2⟩ := zi_fi h1 hT hB hw hold1 hj
    exact ⟨r1, L - 1, by omega, by rw [hLR] at r2; exact r2, by show L - 1 + z.2 + 1 = L + z.2; omega⟩
/-- the states of serveAt's loop -/
theorem zi_svn {a n T G B w L : Nat} {M : xm_T} (h : zi a M n T G B) (hT : T + 1 ≤ G) (hB : B + 24 < 2 ^ 31) (hw : w < 6) (hL : M (a + 5 * w + 7) 1 = nI L) (hL24 : L ≤ 24) :
    ∀ i, i ≤ L → zi a (zm_it (zm_s1 a w) i (M, 0)).1 n T G (B + i) ∧ ∃ L', L' ≤ 24 ∧ (zm_it (zm_s1 a w) i (M, 0)).1 (a + 5 * w + 7) 1 = nI L' ∧ L' + i = L + (zm_it (zm_s1 a w) i (M, 0)).2 := by
  intro i
  induction i with
  | zero => intro _; exact ⟨h, L, hL24, hL, rfl⟩
  | succ i ih =>
    intro hi
    obtain ⟨g1, L', g2, g3, g4⟩ := ih (by omega)
    obtain ⟨r1, L2, r2, r3, r4⟩ := zi_s1 g1 hT (by omega) hw g3 g2 (by omega)
    exact ⟨r1, L2, r2, r3, by show L2 + (i + 1) = L + (zm_s1 a w (zm_it (zm_s1 a w) i (M, 0))).2; omega⟩
theorem zi_Ls {a n T G B w : Nat} {M : xm_T} (h : zi a M n T G B) (hw : w < 6) : ∃ L, L ≤ 24 ∧ M (a + 5 * w + 7) 1 = nI L := by
  obtain ⟨Q, R, hold⟩ := h.2.2.2.2.2.1
  exact ⟨_, (hold w hw).2.1.1, (hold w hw).2.1.2.1⟩
theorem zi_Lq {a n T G B w : Nat} {M : xm_T} (h : zi a M n T G B) (hw : w < 6) : ∃ L, L ≤ 24 ∧ M (a + 5 * w + 5) 1 = nI L := by
  obtain ⟨Q, R, hold⟩ := h.2.2.2.2.2.1
  exact ⟨_, (hold w hw).1.1, (hold w hw).1.2.1⟩
theorem zi_sv {a n T G B w : Nat} {M : xm_T} (h : zi a M n T G B) (hT : T + 1 ≤ G) (hB : B + 24 < 2 ^ 31) (hw : w < 6) : zi a (zm_sv a w M) n T G (B + 24) := by
  obtain ⟨L, hL24, hL⟩ := zi_Ls h hw
  unfold zm_sv
  rw [hL, nI_clamp (by omega)]
  exact (zi_svn h hT hB hw hL hL24 L (Nat.le_refl L)).1.mono (Nat.le_refl G) (by omega)
/-- the head of a queue -/
theorem zi_hd {a n T G B w : Nat} {M : xm_T} (h : zi a M n T G B) (hw : w < 6) (hc : ¬ M (a + 5 * w + 5) 1 = nI 0) : ∃ Q R : Nat → List Nat, (∀ v, v < 6 → zi_Lw a n M v (Q v) (R v)) ∧ (Q w)[0]? = some (zm_cp a w M) ∧ zm_cp a w M < n ∧ M (a + 5 * w + 6) 0 = nI (zm_cp a w M) := by
  obtain ⟨Q, R, hold⟩ := h.2.2.2.2.2.1
  have hn := h.n
  have hQ := (hold w hw).1
  have hl : 0 < (Q w).length := by
    rcases Nat.eq_zero_or_pos (Q w).length with z | z
    · exact absurd (by rw [hQ.2.1, z]) hc
    · exact z
  have hj : (Q w)[0]? = some (Q w)[0] := List.getElem?_eq_getElem hl
  generalize (Q w)[0] = k at hj
  have hkn := (((hold w hw).2.2.2.2.1 k).mp (List.mem_of_getElem? hj)).1
  have hnum : M (a + 5 * w + 6) 0 = nI k := hQ.2.2 _ _ hj
  have e : zm_cp a w M = k := by unfold zm_cp; rw [hnum, nI_clamp (by omega)]
  exact ⟨Q, R, hold, by rw [e]; exact hj, by rw [e]; exact hkn, by rw [e]; exact hnum⟩
theorem zi_cl {a n T G B w : Nat} (hw : w < 6) : ∀ (i : Nat) {M : xm_T}, zi a M n T G B → zi a (zm_cl a w i M) n T G B := by
  intro i
  induction i with
  | zero => intro M h; exact h
  | succ i ih =>
    intro M h
    show zi a (if zm_c0 a w M then M else zm_cl a w i (zm_c2 a w (zm_cp a w M) M)) n T G B
    by_cases q : zm_c0 a w M
    · rw [if_pos q]; exact h
    · rw [if_neg q]
      obtain ⟨Q, R, hold, hj, -, -⟩ := zi_hd h hw (fun z => q (Or.inl z))
      exact ih (zi_c2 h hw hold hj)
theorem zi_w0 {a n T G B k : Nat} {M : xm_T} (h : zi a M n T G B) (hkn : k < n) : zi a (zm_w0 a k M) n T G B := by
  have hn := h.n
  have o1 : ∀ x, x ≠ a + 2 * k + 34 → zm_w0 a k M x = M x := fun x hx => by unfold zm_w0 xu_p; rw [xr_n _ _ hx, xr_n _ _ hx]
  have s1 : ∀ i, i ≠ 7 → i ≠ 8 → zm_w0 a k M (a + 2 * k + 34) i = M (a + 2 * k + 34) i := fun i h7 h8 => by unfold zm_w0; rw [xu_n _ (Or.inr h8), xu_n _ (Or.inr h7)]
  refine zi_mi h (fun x hx => o1 x (hx k (by omega))) (fun k' hk' i hi => ?_)
  by_cases q : k' = k
  · subst q; exact s1 i (by omega) (by omega)
  · rw [o1 _ (by omega)]
theorem zi_q0 {a n T G B k : Nat} {M : xm_T} (h : zi a M n T G B) (hk : k < 24) (hq : M (a + 2 * k + 34) 3 = nI 0) : k < n := by
  rcases Nat.lt_or_ge k n with z | z
  · exact z
  · exact absurd (hq.symm.trans (h.2.2.1 k z hk).2.1) (by decide)
theorem zi_w1 {a n T G B k : Nat} {M : xm_T} (h : zi a M n T G B) (hT : T + 1 ≤ G) (hk : k < 24) : zi a (zm_w1 a k M) n T G B := by
  unfold zm_w1
  by_cases q : M (a + 2 * k + 34) 3 = 0
  · rw [if_pos q]
    have hkn := zi_q0 h hk q
    have h0 := zi_w0 h hkn
    by_cases q2 : ¬ M (a + 1) 2 = 0 ∧ ¬ M (a + 2 * k + 34) 8 + nI 1 < M (a + 1) 2
    · rw [if_pos q2, h.1.2.2.1, show nI T + nI 1 = nI (T + 1) from nI_add T 1]
      exact zi_sa h0 hkn (by unfold zm_w0; rw [xu_n _ (Or.inr (by decide)), xu_n _ (Or.inr (by decide))]; exact q) hT
    · rw [if_neg q2]; exact h0
  · rw [if_neg q]; exact h
theorem zi_fo {a n T G B : Nat} {f : Nat → xm_T → xm_T} {L d : Nat} (hf : ∀ (k : Nat) {M : xm_T}, k < L → zi a M n T G (B + d * k) → zi a (f k M) n T G (B + d * (k + 1))) : ∀ (i : Nat) {M : xm_T}, i ≤ L → zi a M n T G B → zi a (zm_fo f i M) n T G (B + d * i) := by
  intro i
  induction i with
  | zero => intro M _ h; exact h
  | succ i ih => intro M hi h; exact hf i (by omega) (ih (by omega) h)
theorem zi_cf {a n T G B k : Nat} {M : xm_T} (h : zi a M n T G B) (hk : k < 24) : zi a (zm_cf a k M) n T G B := by
  have o1 : ∀ x, x ≠ a + 2 * k + 34 → zm_cf a k M x = M x := fun x hx => by unfold zm_cf xu_p; rw [xr_n _ _ hx]
  refine zi_mi h (fun x hx => o1 x (hx k hk)) (fun k' hk' i hi => ?_)
  by_cases q : k' = k
  · subst q; unfold zm_cf; rw [xu_n _ (Or.inr (by omega))]
  · rw [o1 _ (by omega)]
theorem zi_v1 {a n T G B w : Nat} {M : xm_T} (h : zi a M n T G B) (hT : T + 1 ≤ G) (hB : B + 24 < 2 ^ 31) (hw : w < 6) : zi a (zm_v1 a w M) n T G (B + 24) := by
  unfold zm_v1
  by_cases q : M (a + 5 * w + 4) 0 = 0
  · rw [if_pos q]; exact h.mono (Nat.le_refl G) (by omega)
  · rw [if_neg q]; exact zi_cl hw _ (zi_sv h hT hB hw)
theorem zi_t1 {a n T B : Nat} {M : xm_T} (h : zi a M n T T B) : zi a (zm_fo (zm_cf a) 24 M) n T (T + 1) B :=
  (zi_fo (d := 0) (fun k _ hk g => by rw [Nat.zero_mul] at g ⊢; exact zi_cf g hk) 24 (Nat.le_refl _) (h.mono (Nat.le_succ T) (Nat.le_refl B))).mono (Nat.le_refl _) (by omega)
theorem zi_t2 {a n T G B : Nat} {M : xm_T} (h : zi a M n T G B) (hT : T + 1 ≤ G) (hB : B + 144 < 2 ^ 31) : ∀ i, i ≤ 6 → zi a (zm_fo (zm_v1 a) i M) n T G (B + 24 * i) := fun i hi =>
  zi_fo (L := 6) (fun k _ hk g => by rw [show B + 24 * (k + 1) = B + 24 * k + 24 by omega]; exact zi_v1 g hT (by omega) hk) i hi h
theorem zi_t3 {a n T G B : Nat} {M : xm_T} (h : zi a M n T G B) (hT : T + 1 ≤ G) : ∀ i, i ≤ 24 → zi a (zm_fo (zm_w1 a) i M) n T G B := fun i hi =>
  (zi_fo (d := 0) (L := 24) (fun k _ hk g => by rw [Nat.zero_mul] at g ⊢; exact zi_w1 g hT hk) i hi h).mono (Nat.le_refl _) (by omega)
theorem zi_ti {a n T B : Nat} {M : xm_T} (h : zi a M n T T B) (hB : B + 144 < 2 ^ 31) : zi a (zm_ti a M) n (T + 1) (T + 1) (B + 144) := by
  have g1 := zi_t1 h
  have g2 : zi a (zm_fo (zm_v1 a) 6 (zm_fo (zm_cf a) 24 M)) n T (T + 1) (B + 24 * 6) := zi_t2 g1 (Nat.le_refl _) hB 6 (Nat.le_refl _)
  have g : zi a (zm_t0 a M) n T (T + 1) (B + 144) := by
    unfold zm_t0 zm_wa
    exact zi_t3 g2 (Nat.le_refl _) 24 (Nat.le_refl _)
  unfold zm_ti
  obtain ⟨N, eN⟩ : ∃ N, N = zm_t0 a M := ⟨_, rfl⟩
  rw [← eN] at g ⊢
  obtain ⟨⟨h1, h2, h3, h4, v, h5, h6⟩, g1, g2, g3, g4, ⟨Q, R, g5⟩, g6, g7, g8⟩ := g
  have o : ∀ x, x ≠ a → xu_p N a 4 (N a 4 + nI 1) x = N x := fun x hx => xr_n _ _ hx
  have o4 : ∀ i, i ≠ 4 → xu_p N a 4 (N a 4 + nI 1) a i = N a i := fun i hi => xu_n _ (Or.inr hi)
  have e4 : xu_p N a 4 (N a 4 + nI 1) a 4 = nI (T + 1) := by rw [xu_s, h3]; exact nI_add T 1
  generalize xu_p N a 4 (N a 4 + nI 1) = Y at o o4 e4
  have wz : ∀ k, zm_wz Y (a + 2 * k + 34) = zm_wz N (a + 2 * k + 34) := fun k => by unfold zm_wz; rw [o _ (by omega), o _ (by omega)]
  refine ⟨⟨h1, by rw [o4 3 (by decide)]; exact h2, e4, Nat.le_refl _, v, h5, by rw [o _ (by omega)]; exact h6⟩, fun k hk => by rw [o _ (by omega)]; exact g1 k hk, fun k hn hk => by rw [o _ (by omega)]; exact g2 k hn hk, fun k hk => by rw [o _ (by omega), o _ (by omega)]; exact g3 k hk, fun w hw => by rw [o _ (by omega)]; exact g4 w hw, ⟨Q, R, fun w hw => ?_⟩, ?_, ?_, ?_⟩
  · obtain ⟨e1, e2, e3, e4, e5, e6⟩ := g5 w hw
    exact ⟨e1.eq (by rw [o _ (by omega)]) (o _ (by omega)), e2.eq (by rw [o _ (by omega)]) (o _ (by omega)), e3, e4, fun k => by rw [e5, wz, o (a + 2 * k + 34) (by omega)], fun k => by rw [e6, wz, o (a + 2 * k + 34) (by omega)]⟩
  · rw [zs_c (f := fun w => N (a + 5 * w + 4) 2) (g := fun w => Y (a + 5 * w + 4) 2) (fun w _ => by rw [o (a + 5 * w + 4) (by omega)]), zs_c (f := fun k => zm_h (N (a + 2 * k + 34) 5)) (g := fun k => zm_h (Y (a + 2 * k + 34) 5)) (fun k _ => by rw [o (a + 2 * k + 34) (by omega)]), o4 5 (by decide), o4 6 (by decide)]
    exact g6
  · rw [zs_c (f := fun w => N (a + 5 * w + 4) 4) (g := fun w => Y (a + 5 * w + 4) 4) (fun w _ => by rw [o (a + 5 * w + 4) (by omega)]), zs_c (f := fun k => N (a + 2 * k + 34) 9) (g := fun k => Y (a + 2 * k + 34) 9) (fun k _ => by rw [o (a + 2 * k + 34) (by omega)])]
    exact g7
  · rw [zs_c (f := fun w => N (a + 5 * w + 4) 3) (g := fun w => Y (a + 5 * w + 4) 3) (fun w _ => by rw [o (a + 5 * w + 4) (by omega)]), zs_c (f := fun k => N (a + 2 * k + 34) 9) (g := fun k => Y (a + 2 * k + 34) 9) (fun k _ => by rw [o (a + 2 * k + 34) (by omega)]), zs_c (f := fun k => N (a + 2 * k + 34) 4) (g := fun k => Y (a + 2 * k + 34) 4) (fun k _ => by rw [o (a + 2 * k + 34) (by omega)])]
    exact g8
theorem zi_tn {a n B : Nat} {M : xm_T} : ∀ (i : Nat) {T : Nat}, zi a M n T T B → B + 144 * i < 2 ^ 31 → zi a (zm_it (zm_ti a) i M) n (T + i) (T + i) (B + 144 * i) := by
  intro i
  induction i with
  | zero => intro T h _; exact h
  | succ i ih =>
    intro T h hB
    rw [show B + 144 * (i + 1) = B + 144 * i + 144 by omega]
    exact zi_ti (ih h (by omega)) (by omega)
