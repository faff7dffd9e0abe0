/-! THE STEPS KEEP IT -/
theorem zu_3 (f : Nat → Int32) (i k : Nat) (v : Int32) (h : i ≠ k) : upd f k v i = f i := if_neg h
theorem zu_s (f : Nat → Int32) (k : Nat) (v : Int32) : upd f k v k = v := if_pos rfl
theorem zi_L.old {a n T G B : Nat} {M : xm_T} (h : zi a M n T G B) : zi_L a n M := h.2.2.2.2.2.1
/-- all of a line's numbers are people's -/
theorem zi_Lw.q {a n w : Nat} {M : xm_T} {Q R : List Nat} (h : zi_Lw a n M w Q R) (hn : n ≤ 24) : ∀ x, x ∈ Q → x < 24 := fun x hx => by have := ((h.2.2.2.2.1 x).mp hx).1; omega
theorem zi_Lw.r {a n w : Nat} {M : xm_T} {Q R : List Nat} (h : zi_Lw a n M w Q R) (hn : n ≤ 24) : ∀ x, x ∈ R → x < 24 := fun x hx => by have := ((h.2.2.2.2.2 x).mp hx).1; omega
theorem zl_room {w : List Nat} {k : Nat} (hN : w.Nodup) (hb : ∀ x, x ∈ w → x < 24) (hk : k < 24) (hkw : k ∉ w) : w.length < 24 := by
  have h1 := zl_le24 (n := 24) (zl_apN hN hkw) (fun x hx => by
    rcases List.mem_append.mp hx with q | q
    · exact hb x q
    · rw [List.mem_singleton.mp q]; exact hk)
  rw [List.length_append] at h1
  have : ([k] : List Nat).length = 1 := rfl
  omega
theorem zn_01 : ¬ nI 0 = nI 1 := by decide
theorem zn_10 : ¬ nI 1 = nI 0 := by decide
/-- from a window's serving line into a queue -/
theorem zi_q {a n T G B B' w j k t m w' : Nat} {M X : xm_T} {Q R : Nat → List Nat} (h : zi a M n T G B) (hB : B ≤ B') (hw : w < 6) (hold : ∀ v, v < 6 → zi_Lw a n M v (Q v) (R v)) (hj : (R w)[j]? = some k)
    (hX : ∀ x, x ≠ a + 2 * k + 34 → x ≠ a + 5 * w + 4 → X x = zl_rv (a + 5 * w + 7) (nI k) M x) (h0 : X (a + 2 * k + 34) 0 = nI k) (hat : zk_at X (a + 2 * k + 34) t m w')
    (hP : zi_P G (upd (upd (X (a + 2 * k + 34)) 3 (nI 0)) 8 (nI 0)) (M (a + 2 * k + 35))) (hW : zi_W B' (X (a + 5 * w + 4)))
    (s1 : X (a + 5 * w + 4) 2 + zm_h (X (a + 2 * k + 34) 5) = M (a + 5 * w + 4) 2 + zm_h (M (a + 2 * k + 34) 5))
    (s2 : X (a + 5 * w + 4) 4 + M (a + 2 * k + 34) 9 = M (a + 5 * w + 4) 4 + X (a + 2 * k + 34) 9)
    (s3 : X (a + 5 * w + 4) 3 + M (a + 2 * k + 34) 4 + M (a + 2 * k + 34) 9 = M (a + 5 * w + 4) 3 + X (a + 2 * k + 34) 4 + X (a + 2 * k + 34) 9) :
    zi a (zm_jn a k X) n T G B' ∧ (zm_jn a k X) (a + 5 * w + 7) 1 = nI ((R w).length - 1) := by
  have hn := h.n
  have hkR := List.mem_of_getElem? hj
  obtain ⟨hkn, hk1, hkw⟩ := ((hold w hw).2.2.2.2.2 k).mp hkR
  have hk24 : k < 24 := by omega
  have hw' := hat.2.2.2.2.2
  have ejn : zm_jn a k X = zl_ap (a + 5 * w' + 5) (nI k) (xu_p (xu_p X (a + 2 * k + 34) 3 (nI 0)) (a + 2 * k + 34) 8 (nI 0)) := by
    unfold zm_jn
    rw [zk_wz hat, if_pos hw', h0]
  obtain ⟨Y, eY⟩ : ∃ Y, Y = zm_jn a k X := ⟨_, rfl⟩
  rw [← eY]
  rw [ejn] at eY
  have yP : Y (a + 2 * k + 34) = upd (upd (X (a + 2 * k + 34)) 3 (nI 0)) 8 (nI 0) := by
    rw [eY, zl_ap_o (by omega) (by omega)]
    unfold xu_p
    rw [xr_s, xr_s]
  have yX : ∀ x, x ≠ a + 5 * w' + 5 → x ≠ a + 5 * w' + 6 → x ≠ a + 2 * k + 34 → Y x = X x := fun x h1 h2 h3 => by
    rw [eY, zl_ap_o h1 h2]
    unfold xu_p
    rw [xr_n _ _ h3, xr_n _ _ h3]
  have yM : ∀ x, x ≠ a + 5 * w' + 5 → x ≠ a + 5 * w' + 6 → x ≠ a + 2 * k + 34 → x ≠ a + 5 * w + 4 → x ≠ a + 5 * w + 7 → x ≠ a + 5 * w + 8 → Y x = M x := fun x h1 h2 h3 h4 h5 h6 => by
    rw [yX x h1 h2 h3, hX x h3 h4, zl_rv_o h5 h6]
  have yV : Y (a + 5 * w + 4) = X (a + 5 * w + 4) := yX _ (by omega) (by omega) (by omega)
  have hlR : zl_L Y (a + 5 * w + 7) ((R w).eraseIdx j) := ((hold w hw).2.1.rv (hold w hw).2.2.2.1 ((hold w hw).r hn) hj).eq (by rw [yX _ (by omega) (by omega) (by omega), hX _ (by omega) (by omega)]) (by rw [yX _ (by omega) (by omega) (by omega), hX _ (by omega) (by omega)])
  have hkQ : ∀ v, v < 6 → k ∉ Q v := fun v hv z => by
    have := ((hold v hv).2.2.2.2.1 k).mp z
    exact zn_01 (this.2.1.symm.trans hk1)
  have hroom : (Q w').length < 24 := zl_room (hold w' hw').2.2.1 ((hold w' hw').q hn) hk24 (hkQ w' hw')
  have hlQ : zl_L Y (a + 5 * w' + 5) (Q w' ++ [k]) := by
    rw [eY]
    refine zl_L.ap ((hold w' hw').1.eq ?_ ?_) hroom k
    · unfold xu_p
      rw [xr_n _ _ (by omega), xr_n _ _ (by omega), hX _ (by omega) (by omega), zl_rv_o (by omega) (by omega)]
    · unfold xu_p
      rw [xr_n _ _ (by omega), xr_n _ _ (by omega), hX _ (by omega) (by omega), zl_rv_o (by omega) (by omega)]
  have hwz : zm_wz Y (a + 2 * k + 34) = w' := by
    have : zm_wz Y (a + 2 * k + 34) = zm_wz X (a + 2 * k + 34) := by
      unfold zm_wz
      rw [yP, yX (a + 2 * k + 34 + 1) (by omega) (by omega) (by omega)]
      rfl
    rw [this, zk_wz hat]
  have hY3 : Y (a + 2 * k + 34) 3 = nI 0 := by rw [yP]; rfl
  have hp : ∀ i, i < 24 → i ≠ k → Y (a + 2 * i + 34) = M (a + 2 * i + 34) := fun i hi hik => yM _ (by omega) (by omega) (by omega) (by omega) (by omega) (by omega)
  have he : ∀ i, i < 24 → Y (a + 2 * i + 35) = M (a + 2 * i + 35) := fun i hi => yM _ (by omega) (by omega) (by omega) (by omega) (by omega) (by omega)
  have hA : Y a = M a := yM _ (by omega) (by omega) (by omega) (by omega) (by omega) (by omega)
  refine ⟨zi_mv h hkn hw hB ⟨by rw [hA], by rw [hA], by rw [hA]⟩ (yM _ (by omega) (by omega) (by omega) (by omega) (by omega) (by omega)) hp he (by rw [yP, h.2.1 k hk24]; exact h0) (by rw [yP]; exact hP) (fun v hv hvw => yM _ (by omega) (by omega) (by omega) (by omega) (by omega) (by omega)) (by rw [yV]; exact hW) ?_ ?_ ?_ ?_, ?_⟩
  · refine zi_lv (Q' := fun v => if v = w' then Q v ++ [k] else Q v) (R' := fun v => if v = w then (R v).eraseIdx j else R v) hkn hn hold hp he (fun v hv => ?_)
    have hq : zl_L Y (a + 5 * v + 5) (if v = w' then Q v ++ [k] else Q v) ∧ (if v = w' then Q v ++ [k] else Q v).Nodup ∧ (∀ i, i ≠ k → (i ∈ (if v = w' then Q v ++ [k] else Q v) ↔ i ∈ Q v)) ∧ (k ∈ (if v = w' then Q v ++ [k] else Q v) ↔ Y (a + 2 * k + 34) 3 = nI 0 ∧ zm_wz Y (a + 2 * k + 34) = v) := by
      by_cases q : v = w'
      · subst q
        rw [if_pos rfl]
        exact ⟨hlQ, zl_apN (hold v hv).2.2.1 (hkQ v hv), fun i hi => by rw [List.mem_append, List.mem_singleton]; exact ⟨fun z => z.resolve_right hi, Or.inl⟩, ⟨fun _ => ⟨hY3, hwz⟩, fun _ => List.mem_append.mpr (Or.inr (List.mem_singleton.mpr rfl))⟩⟩
      · rw [if_neg q]
        exact ⟨(hold v hv).1.eq (by rw [yM _ (by omega) (by omega) (by omega) (by omega) (by omega) (by omega)]) (yM _ (by omega) (by omega) (by omega) (by omega) (by omega) (by omega)), (hold v hv).2.2.1, fun i _ => Iff.rfl, ⟨fun z => absurd z (hkQ v hv), fun z => absurd (z.2.symm.trans hwz) q⟩⟩
    have hr : zl_L Y (a + 5 * v + 7) (if v = w then (R v).eraseIdx j else R v) ∧ (if v = w then (R v).eraseIdx j else R v).Nodup ∧ (∀ i, i ≠ k → (i ∈ (if v = w then (R v).eraseIdx j else R v) ↔ i ∈ R v)) ∧ (k ∈ (if v = w then (R v).eraseIdx j else R v) ↔ Y (a + 2 * k + 34) 3 = nI 1 ∧ zm_wz Y (a + 2 * k + 34) = v) := by
      have hno : ¬ (Y (a + 2 * k + 34) 3 = nI 1 ∧ zm_wz Y (a + 2 * k + 34) = v) := fun z => zn_01 (hY3.symm.trans z.1)
      by_cases q : v = w
      · subst q
        rw [if_pos rfl]
        have hN := (hold v hv).2.2.2.1
        exact ⟨hlR, zl_erN hN j, fun i hi => by rw [zl_er hN hj]; exact ⟨fun z => z.1, fun z => ⟨z, hi⟩⟩, ⟨fun z => absurd rfl ((zl_er hN hj k).mp z).2, fun z => absurd z hno⟩⟩
      · rw [if_neg q]
        exact ⟨(hold v hv).2.1.eq (by rw [yM _ (by omega) (by omega) (by omega) (by omega) (by omega) (by omega)]) (yM _ (by omega) (by omega) (by omega) (by omega) (by omega) (by omega)), (hold v hv).2.2.2.1, fun i _ => Iff.rfl, ⟨fun z => absurd (hkw.symm.trans (((hold v hv).2.2.2.2.2 k).mp z).2.2).symm q, fun z => absurd z hno⟩⟩
    exact ⟨hq.1, hr.1, hq.2.1, hr.2.1, hq.2.2.1, hr.2.2.1, hq.2.2.2, hr.2.2.2⟩
  · rw [yV, yP, hA]
    exact congrArg (· + M a 5) s1
  · rw [yV, yP]
    exact s2
  · rw [yV, yP]
    exact s3
  · rw [hlR.2.1, List.length_eraseIdx_of_lt (List.getElem?_eq_some_iff.mp hj).1]
/-- from a window's serving line away: done -/
theorem zi_d {a n T G B B' w j k : Nat} {M Y : xm_T} {Q R : Nat → List Nat} (h : zi a M n T G B) (hB : B ≤ B') (hw : w < 6) (hold : ∀ v, v < 6 → zi_Lw a n M v (Q v) (R v)) (hj : (R w)[j]? = some k)
    (hX : ∀ x, x ≠ a + 2 * k + 34 → x ≠ a + 5 * w + 4 → Y x = zl_rv (a + 5 * w + 7) (nI k) M x) (h0 : Y (a + 2 * k + 34) 0 = nI k) (h3 : Y (a + 2 * k + 34) 3 = nI 2)
    (hP : zi_P G (Y (a + 2 * k + 34)) (M (a + 2 * k + 35))) (hW : zi_W B' (Y (a + 5 * w + 4)))
    (s1 : Y (a + 5 * w + 4) 2 + zm_h (Y (a + 2 * k + 34) 5) = M (a + 5 * w + 4) 2 + zm_h (M (a + 2 * k + 34) 5))
    (s2 : Y (a + 5 * w + 4) 4 + M (a + 2 * k + 34) 9 = M (a + 5 * w + 4) 4 + Y (a + 2 * k + 34) 9)
    (s3 : Y (a + 5 * w + 4) 3 + M (a + 2 * k + 34) 4 + M (a + 2 * k + 34) 9 = M (a + 5 * w + 4) 3 + Y (a + 2 * k + 34) 4 + Y (a + 2 * k + 34) 9) :
    zi a Y n T G B' ∧ Y (a + 5 * w + 7) 1 = nI ((R w).length - 1) := by
  have hn := h.n
  have hkR := List.mem_of_getElem? hj
  obtain ⟨hkn, hk1, hkw⟩ := ((hold w hw).2.2.2.2.2 k).mp hkR
  have hk24 : k < 24 := by omega
  have yM : ∀ x, x ≠ a + 2 * k + 34 → x ≠ a + 5 * w + 4 → x ≠ a + 5 * w + 7 → x ≠ a + 5 * w + 8 → Y x = M x := fun x h3 h4 h5 h6 => by
    rw [hX x h3 h4, zl_rv_o h5 h6]
  have hlR : zl_L Y (a + 5 * w + 7) ((R w).eraseIdx j) := ((hold w hw).2.1.rv (hold w hw).2.2.2.1 ((hold w hw).r hn) hj).eq (by rw [hX _ (by omega) (by omega)]) (by rw [hX _ (by omega) (by omega)])
  have hkQ : ∀ v, v < 6 → k ∉ Q v := fun v hv z => by
    have := ((hold v hv).2.2.2.2.1 k).mp z
    exact zn_01 (this.2.1.symm.trans hk1)
  have hp : ∀ i, i < 24 → i ≠ k → Y (a + 2 * i + 34) = M (a + 2 * i + 34) := fun i hi hik => yM _ (by omega) (by omega) (by omega) (by omega)
  have he : ∀ i, i < 24 → Y (a + 2 * i + 35) = M (a + 2 * i + 35) := fun i hi => yM _ (by omega) (by omega) (by omega) (by omega)
  have hA : Y a = M a := yM _ (by omega) (by omega) (by omega) (by omega)
  have h30 : ¬ Y (a + 2 * k + 34) 3 = nI 0 := by rw [h3]; decide
  have h31 : ¬ Y (a + 2 * k + 34) 3 = nI 1 := by rw [h3]; decide
  refine ⟨zi_mv h hkn hw hB ⟨by rw [hA], by rw [hA], by rw [hA]⟩ (yM _ (by omega) (by omega) (by omega) (by omega)) hp he (by rw [h.2.1 k hk24]; exact h0) hP (fun v hv hvw => yM _ (by omega) (by omega) (by omega) (by omega)) hW ?_ (by rw [hA]; exact congrArg (· + M a 5) s1) s2 s3, ?_⟩
  · refine zi_lv (Q' := Q) (R' := fun v => if v = w then (R v).eraseIdx j else R v) hkn hn hold hp he (fun v hv => ?_)
    have hr : zl_L Y (a + 5 * v + 7) (if v = w then (R v).eraseIdx j else R v) ∧ (if v = w then (R v).eraseIdx j else R v).Nodup ∧ (∀ i, i ≠ k → (i ∈ (if v = w then (R v).eraseIdx j else R v) ↔ i ∈ R v)) ∧ (k ∈ (if v = w then (R v).eraseIdx j else R v) ↔ Y (a + 2 * k + 34) 3 = nI 1 ∧ zm_wz Y (a + 2 * k + 34) = v) := by
      have hno : ¬ (Y (a + 2 * k + 34) 3 = nI 1 ∧ zm_wz Y (a + 2 * k + 34) = v) := fun z => h31 z.1
      by_cases q : v = w
      · subst q
        rw [if_pos rfl]
        have hN := (hold v hv).2.2.2.1
        exact ⟨hlR, zl_erN hN j, fun i hi => by rw [zl_er hN hj]; exact ⟨fun z => z.1, fun z => ⟨z, hi⟩⟩, ⟨fun z => absurd rfl ((zl_er hN hj k).mp z).2, fun z => absurd z hno⟩⟩
      · rw [if_neg q]
        exact ⟨(hold v hv).2.1.eq (by rw [yM _ (by omega) (by omega) (by omega) (by omega)]) (yM _ (by omega) (by omega) (by omega) (by omega)), (hold v hv).2.2.2.1, fun i _ => Iff.rfl, ⟨fun z => absurd (hkw.symm.trans (((hold v hv).2.2.2.2.2 k).mp z).2.2).symm q, fun z => absurd z hno⟩⟩
    exact ⟨(hold v hv).1.eq (by rw [yM _ (by omega) (by omega) (by omega) (by omega)]) (yM _ (by omega) (by omega) (by omega) (by omega)), hr.1, (hold v hv).2.2.1, hr.2.1, fun i _ => Iff.rfl, hr.2.2.1, ⟨fun z => absurd z (hkQ v hv), fun z => absurd z.1 h30⟩, hr.2.2.2⟩
  · rw [hlR.2.1, List.length_eraseIdx_of_lt (List.getElem?_eq_some_iff.mp hj).1]
theorem zh_0 {v : Int32} (h : v = nI 0) : zm_h v = nI 0 := by subst h; rfl
theorem zh_1 {v : Int32} (h : v = nI 1) : zm_h v = nI 1 := by subst h; rfl
theorem zi_fi {a n T G B w j k : Nat} {M : xm_T} {Q R : Nat → List Nat} (h : zi a M n T G B) (hT : T + 1 ≤ G) (hB : B + 1 < 2 ^ 31) (hw : w < 6) (hold : ∀ v, v < 6 → zi_Lw a n M v (Q v) (R v)) (hj : (R w)[j]? = some k) :
    zi a (zm_fi a w k (zl_rv (a + 5 * w + 7) (nI k) M)) n T G (B + 1) ∧ (zm_fi a w k (zl_rv (a + 5 * w + 7) (nI k) M)) (a + 5 * w + 7) 1 = nI ((R w).length - 1) := by
  obtain ⟨hkn, hk1, hkw⟩ := ((hold w hw).2.2.2.2.2 k).mp (List.mem_of_getElem? hj)
  have hn := h.n
  have hk24 : k < 24 := by omega
  have hk0 := h.2.1 k hk24
  have hP := h.2.2.2.1 k hkn
  obtain ⟨m, t, p1, p2, p3, p4, p5, p6⟩ := hP
  obtain ⟨pt, p10, ph⟩ : t < m ∧ M (a + 2 * k + 34) 10 = -6 ∧ (M (a + 2 * k + 34) 5 = nI 0 ∨ (M (a + 2 * k + 34) 5 = nI 1 ∧ 0 < t)) := by
    rcases p6 with q | q | q
    · exact q.2
    · exact absurd (hk1.symm.trans q.1) (by decide)
    · exact absurd (hk1.symm.trans q.1) (by decide)
  obtain ⟨hv, sv, bv, w1, w2, w3, w4, w5, w6⟩ := h.2.2.2.2.1 w hw
  obtain ⟨N, eN⟩ : ∃ N, N = zl_rv (a + 5 * w + 7) (nI k) M := ⟨_, rfl⟩
  have nM : ∀ x, x ≠ a + 5 * w + 7 → x ≠ a + 5 * w + 8 → N x = M x := fun x h1 h2 => by rw [eN, zl_rv_o h1 h2]
  have nP : N (a + 2 * k + 34) = M (a + 2 * k + 34) := nM _ (by omega) (by omega)
  have nV : N (a + 5 * w + 4) = M (a + 5 * w + 4) := nM _ (by omega) (by omega)
  have nA : N a = M a := nM _ (by omega) (by omega)
  have nE : N (a + 2 * k + 34 + 1) = M (a + 2 * k + 35) := nM _ (by omega) (by omega)
  have a4 := h.1.2.2.1
  rw [← eN]
  unfold zm_fi
  rw [nP, nV, p4, p3, w4]
  have e1 : nI t + nI 1 = nI (t + 1) := nI_add t 1
  have e3 : nI sv + nI 1 = nI (sv + 1) := nI_add sv 1
  by_cases q : nI t + nI 1 < nI m
  · rw [if_pos q]
    have htm : t + 1 < m := by rw [e1] at q; exact (nI_ltI (by omega) (by omega)).mp q
    obtain ⟨w', hw', hE'⟩ := p5 (t + 1) htm
    obtain ⟨w0, hw0, hE0⟩ := p5 t pt
    by_cases q2 : nI hv ≤ 0
    · rw [if_pos q2]
      have hv0 : hv = 0 := by
        rcases Nat.eq_zero_or_pos hv with z | z
        · exact z
        · exact absurd q2 (nI_nle z (by omega))
      by_cases q3 : M (a + 2 * k + 34) 5 = 0
      · rw [if_pos q3]
        unfold zm_f3
        rw [nP, nV]
        refine zi_q (t := t) (m := m) (w' := w0) h (Nat.le_succ B) hw hold hj (fun x g1 g2 => ?_) ?_ ?_ ?_ ?_ ?_ ?_ ?_
        · rw [← eN]; simp only [xu_p]; rw [xr_n _ _ g1, xr_n _ _ g2, xr_n _ _ g1, xr_n _ _ g2]
        · simp (disch := omega) only [xu_p, xr_s, xr_n, nP, upd]; exact hk0
        · refine ⟨?_, ?_, pt, p2, ?_, hw0⟩
          · simp (disch := omega) only [xu_p, xr_s, xr_n, nP, upd]; exact p3
          · simp (disch := omega) only [xu_p, xr_s, xr_n, nP, upd]; exact p4
          · simp (disch := omega) only [xu_p, xr_s, xr_n, nE]; exact hE0
        · refine ⟨m, t, p1, p2, ?_, ?_, p5, Or.inl ⟨Or.inl ?_, pt, ?_, ?_⟩⟩
          · simp (disch := omega) only [xu_p, xr_s, xr_n, nP, upd]; exact p3
          · simp (disch := omega) only [xu_p, xr_s, xr_n, nP, upd]; exact p4
          · rfl
          · simp (disch := omega) only [xu_p, xr_s, xr_n, nP, upd]; exact p10
          · simp (disch := omega) only [xu_p, xr_s, xr_n, nP, upd]; exact ph
        · refine ⟨hv, sv + 1, bv + 1, by omega, by omega, by omega, ?_, ?_, ?_⟩
          · simp (disch := omega) only [xu_p, xr_s, xr_n, nV, upd]; exact w4
          · simp (disch := omega) only [xu_p, xr_s, xr_n, nV, upd]; exact (by rw [w5]; exact e3)
          · simp (disch := omega) only [xu_p, xr_s, xr_n, nV, upd]; exact (by rw [w6]; exact nI_add bv 1)
        · simp (disch := omega) only [xu_p, xr_s, xr_n, nP, nV, upd]; rfl
        · simp (disch := omega) only [xu_p, xr_s, xr_n, nP, nV, upd]; show _ + nI 1 + _ = _ + (_ + nI 1); grind
        · simp (disch := omega) only [xu_p, xr_s, xr_n, nP, nV, upd]; show _ + nI 1 + _ + _ = _ + _ + (_ + nI 1); grind
      · rw [if_neg q3]
        have ph1 : M (a + 2 * k + 34) 5 = nI 1 := (ph.resolve_left q3).1
        unfold zm_f2
        rw [nP, nV]
        refine zi_q (t := t + 1) (m := m) (w' := w') h (Nat.le_succ B) hw hold hj (fun x g1 g2 => ?_) ?_ ?_ ?_ ?_ ?_ ?_ ?_
        · rw [← eN]; simp only [xu_p]; rw [xr_n _ _ g1, xr_n _ _ g1, xr_n _ _ g2]
        · simp (disch := omega) only [xu_p, xr_s, xr_n, nP, upd]; exact hk0
        · refine ⟨?_, ?_, htm, p2, ?_, hw'⟩
          · simp (disch := omega) only [xu_p, xr_s, xr_n, nP, upd]; exact p3
          · simp (disch := omega) only [xu_p, xr_s, xr_n, nP, upd]; exact (by rw [p4]; exact e1)
          · simp (disch := omega) only [xu_p, xr_s, xr_n, nE]; exact hE'
        · refine ⟨m, t + 1, p1, p2, ?_, ?_, p5, Or.inl ⟨Or.inl ?_, htm, ?_, Or.inr ⟨?_, by omega⟩⟩⟩
          · simp (disch := omega) only [xu_p, xr_s, xr_n, nP, upd]; exact p3
          · simp (disch := omega) only [xu_p, xr_s, xr_n, nP, upd]; exact (by rw [p4]; exact e1)
          · rfl
          · simp (disch := omega) only [xu_p, xr_s, xr_n, nP, upd]; exact p10
          · simp (disch := omega) only [xu_p, xr_s, xr_n, nP, upd]; exact ph1
        · refine ⟨hv, sv + 1, bv, by omega, by omega, by omega, ?_, ?_, ?_⟩
          · simp (disch := omega) only [xu_p, xr_s, xr_n, nV, upd]; exact w4
          · simp (disch := omega) only [xu_p, xr_s, xr_n, nV, upd]; exact (by rw [w5]; exact e3)
          · simp (disch := omega) only [xu_p, xr_s, xr_n, nV, upd]; exact w6
        · simp (disch := omega) only [xu_p, xr_s, xr_n, nP, nV, upd]; rfl
        · simp (disch := omega) only [xu_p, xr_s, xr_n, nP, nV, upd]; rfl
        · simp (disch := omega) only [xu_p, xr_s, xr_n, nP, nV, upd]; show _ + nI 1 + _ + _ = _ + (_ + nI 1) + _; grind
    · rw [if_neg q2]
      have hvp : 0 < hv := by
        rcases Nat.eq_zero_or_pos hv with z | z
        · exact absurd (by rw [z]; decide) q2
        · exact z
      unfold zm_f1
      rw [nP, nV]
      refine zi_q (t := t + 1) (m := m) (w' := w') h (Nat.le_succ B) hw hold hj (fun x g1 g2 => ?_) ?_ ?_ ?_ ?_ ?_ ?_ ?_
      · rw [← eN]; simp only [xu_p]; rw [xr_n _ _ g1, xr_n _ _ g1, xr_n _ _ g1, xr_n _ _ g2, xr_n _ _ g2]
      · simp (disch := omega) only [xu_p, xr_s, xr_n, nP, upd]; exact hk0
      · refine ⟨?_, ?_, htm, p2, ?_, hw'⟩
        · simp (disch := omega) only [xu_p, xr_s, xr_n, nP, upd]; exact p3
        · simp (disch := omega) only [xu_p, xr_s, xr_n, nP, upd]; exact (by rw [p4]; exact e1)
        · simp (disch := omega) only [xu_p, xr_s, xr_n, nE]; exact hE'
      · refine ⟨m, t + 1, p1, p2, ?_, ?_, p5, Or.inl ⟨Or.inl ?_, htm, ?_, Or.inr ⟨?_, by omega⟩⟩⟩
        · simp (disch := omega) only [xu_p, xr_s, xr_n, nP, upd]; exact p3
        · simp (disch := omega) only [xu_p, xr_s, xr_n, nP, upd]; exact (by rw [p4]; exact e1)
        · rfl
        · simp (disch := omega) only [xu_p, xr_s, xr_n, nP, upd]; exact p10
        · simp (disch := omega) only [xu_p, xr_s, xr_n, nP, upd]; rfl
      · rcases ph with z | ⟨z, -⟩
        · refine ⟨hv - 1, sv + 1, bv, by omega, by omega, by omega, ?_, ?_, ?_⟩
          · simp (disch := omega) only [xu_p, xr_s, xr_n, nV, upd]
            show M (a + 5 * w + 4) 2 + (if M (a + 2 * k + 34) 5 = 0 then (-1) else nI 0) = _
            rw [if_pos (show M (a + 2 * k + 34) 5 = 0 from z), w4]
            have e := nI_pred (hv - 1)
            rw [show hv - 1 + 1 = hv by omega] at e
            rw [← e]
            grind
          · simp (disch := omega) only [xu_p, xr_s, xr_n, nV, upd]; exact (by rw [w5]; exact e3)
          · simp (disch := omega) only [xu_p, xr_s, xr_n, nV, upd]; exact w6
        · refine ⟨hv, sv + 1, bv, by omega, by omega, by omega, ?_, ?_, ?_⟩
          · simp (disch := omega) only [xu_p, xr_s, xr_n, nV, upd]
            show M (a + 5 * w + 4) 2 + (if M (a + 2 * k + 34) 5 = 0 then (-1) else nI 0) = _
            rw [if_neg (by rw [z]; decide), w4]
            exact nI_add hv 0
          · simp (disch := omega) only [xu_p, xr_s, xr_n, nV, upd]; exact (by rw [w5]; exact e3)
          · simp (disch := omega) only [xu_p, xr_s, xr_n, nV, upd]; exact w6
      · simp (disch := omega) only [xu_p, xr_s, xr_n, nP, nV, upd]
        show M (a + 5 * w + 4) 2 + (if M (a + 2 * k + 34) 5 = 0 then (-1) else nI 0) + zm_h (nI 1) = _
        rcases ph with z | ⟨z, -⟩
        · rw [if_pos (show M (a + 2 * k + 34) 5 = 0 from z), zh_0 z, zh_1 rfl, show nI 1 = 1 from rfl, show nI 0 = 0 from rfl]; grind
        · rw [if_neg (by rw [z]; decide), zh_1 z, zh_1 rfl, show nI 0 = 0 from rfl]; grind
      · simp (disch := omega) only [xu_p, xr_s, xr_n, nP, nV, upd]; rfl
      · simp (disch := omega) only [xu_p, xr_s, xr_n, nP, nV, upd]; show _ + nI 1 + _ + _ = _ + (_ + nI 1) + _; grind
  · rw [if_neg q]
    have htm : t + 1 = m := by
      have : ¬ t + 1 < m := fun z => q (by rw [e1]; exact nI_lt z (by omega))
      omega
    unfold zm_f0 zm_go
    rw [nP, nV, nA]
    refine zi_d h (Nat.le_succ B) hw hold hj (fun x g1 g2 => ?_) ?_ ?_ ?_ ?_ ?_ ?_ ?_
    · rw [← eN]; simp only [xu_p]; rw [xr_n _ _ g1, xr_n _ _ g1, xr_n _ _ g1, xr_n _ _ g2, xr_n _ _ g1, xr_n _ _ g2]
    · simp (disch := omega) only [xu_p, xr_s, xr_n, nP, upd]; exact hk0
    · simp (disch := omega) only [xu_p, xr_s, xr_n, nP, upd]; rfl
    · refine ⟨m, t + 1, p1, p2, ?_, ?_, p5, Or.inr (Or.inl ⟨?_, htm, ?_, T + 1, hT, ?_⟩)⟩
      · simp (disch := omega) only [xu_p, xr_s, xr_n, nP, upd]; exact p3
      · simp (disch := omega) only [xu_p, xr_s, xr_n, nP, upd]; exact (by rw [p4]; exact e1)
      · simp (disch := omega) only [xu_p, xr_s, xr_n, nP, upd]; rfl
      · simp (disch := omega) only [xu_p, xr_s, xr_n, nP, upd]; rfl
      · simp (disch := omega) only [xu_p, xr_s, xr_n, nP, upd]; exact (by rw [a4]; exact nI_add T 1)
    · refine ⟨hv + (if M (a + 2 * k + 34) 5 = 0 then 0 else 1), sv + 1, bv, by split <;> omega, by omega, by omega, ?_, ?_, ?_⟩
      · simp (disch := omega) only [xu_p, xr_s, xr_n, nV, upd]
        show M (a + 5 * w + 4) 2 + zm_h (M (a + 2 * k + 34) 5) = _
        rw [w4]
        unfold zm_h
        split
        · exact nI_add hv 0
        · exact nI_add hv 1
      · simp (disch := omega) only [xu_p, xr_s, xr_n, nV, upd]; exact (by rw [w5]; exact e3)
      · simp (disch := omega) only [xu_p, xr_s, xr_n, nV, upd]; exact w6
    · simp (disch := omega) only [xu_p, xr_s, xr_n, nP, nV, upd]
      show M (a + 5 * w + 4) 2 + zm_h (M (a + 2 * k + 34) 5) + zm_h (nI 0) = _
      rw [zh_0 rfl, show nI 0 = 0 from rfl]; grind
    · simp (disch := omega) only [xu_p, xr_s, xr_n, nP, nV, upd]; rfl
    · simp (disch := omega) only [xu_p, xr_s, xr_n, nP, nV, upd]; show _ + nI 1 + _ + _ = _ + (_ + nI 1) + _; grind
