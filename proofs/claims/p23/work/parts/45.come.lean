/-! ONE MORE PERSON KEEPS IT; WHAT SETTINGS AND WINDOWS CHANGE -/
theorem zi_ad {a n T G B m : Nat} {e : Nat → Int32} {M : xm_T} (h : zi a M n T G B) (hn : n < 24) (hm1 : 1 ≤ m) (hm8 : m ≤ 8) (hd : ∀ j, j < m → ∃ w, w < 6 ∧ e j = nI w) : zi a (zm_ad a m e M) (n + 1) T G B := by
  obtain ⟨⟨h1, h2, h3, h4, v, h5, h6⟩, g1, g2, g3, g4, ⟨Q, R, hold⟩, g6, g7, g8⟩ := h
  obtain ⟨w0, hw0, he0⟩ := hd 0 (by omega)
  obtain ⟨n2, n3, n4, n5, n7, n9, n10⟩ := g2 n (Nat.le_refl n) hn
  have hn0 := g1 n hn
  have en : (M a 3).toNatClampNeg = n := by rw [h2, nI_clamp (by omega)]
  obtain ⟨X, eX⟩ : ∃ X, X = zm_a0 a n m e M := ⟨_, rfl⟩
  have xP : X (a + 2 * n + 34) = upd (M (a + 2 * n + 34)) 2 (nI m) := by
    rw [eX]; unfold zm_a0 xu_p; rw [xr_s, xr_n _ _ (by omega), xr_n _ _ (by omega)]
  have xE : X (a + 2 * n + 35) = fun j => if j < m then e j else M (a + 2 * n + 35) j := by
    rw [eX]; unfold zm_a0 xu_p; rw [xr_n _ _ (by omega), xr_s]
  have xA : X a = upd (M a) 3 (nI (n + 1)) := by
    rw [eX]; unfold zm_a0 xu_p; rw [xr_n _ _ (by omega), xr_n _ _ (by omega), xr_s, h2, show nI n + nI 1 = nI (n + 1) from nI_add n 1]
  have xM : ∀ x, x ≠ a → x ≠ a + 2 * n + 34 → x ≠ a + 2 * n + 35 → X x = M x := fun x z1 z2 z3 => by
    rw [eX]; unfold zm_a0 xu_p; rw [xr_n _ _ z2, xr_n _ _ z3, xr_n _ _ z1]
  have hat : zk_at X (a + 2 * n + 34) 0 m w0 := by
    refine ⟨by rw [xP]; rfl, by rw [xP]; exact n4, by omega, hm8, ?_, hw0⟩
    show X (a + 2 * n + 35) 0 = nI w0
    rw [xE]
    show (if 0 < m then e 0 else _) = _
    rw [if_pos (by omega)]
    exact he0
  obtain ⟨Y, eY⟩ : ∃ Y, Y = zm_ad a m e M := ⟨_, rfl⟩
  rw [← eY]
  unfold zm_ad at eY
  rw [en, if_pos hn, ← eX] at eY
  unfold zm_jn at eY
  rw [zk_wz hat, if_pos hw0, xP, show upd (M (a + 2 * n + 34)) 2 (nI m) 0 = nI n from hn0] at eY
  have yX : ∀ x, x ≠ a + 2 * n + 34 → x ≠ a + 5 * w0 + 5 → x ≠ a + 5 * w0 + 6 → Y x = X x := fun x z1 z2 z3 => by
    rw [eY, zl_ap_o z2 z3]; unfold xu_p; rw [xr_n _ _ z1, xr_n _ _ z1]
  have yP : Y (a + 2 * n + 34) = upd (upd (upd (M (a + 2 * n + 34)) 2 (nI m)) 3 (nI 0)) 8 (nI 0) := by
    rw [eY, zl_ap_o (by omega) (by omega)]; unfold xu_p; rw [xr_s, xr_s, xP]
  have yE : Y (a + 2 * n + 35) = fun j => if j < m then e j else M (a + 2 * n + 35) j := by rw [yX _ (by omega) (by omega) (by omega), xE]
  have yA : Y a = upd (M a) 3 (nI (n + 1)) := by rw [yX _ (by omega) (by omega) (by omega), xA]
  have yM : ∀ x, x ≠ a → x ≠ a + 2 * n + 34 → x ≠ a + 2 * n + 35 → x ≠ a + 5 * w0 + 5 → x ≠ a + 5 * w0 + 6 → Y x = M x := fun x z1 z2 z3 z4 z5 => by
    rw [yX x z2 z4 z5, xM x z1 z2 z3]
  have hp : ∀ i, i < 24 → i ≠ n → Y (a + 2 * i + 34) = M (a + 2 * i + 34) := fun i hi q => yM _ (by omega) (by omega) (by omega) (by omega) (by omega)
  have he : ∀ i, i < 24 → i ≠ n → Y (a + 2 * i + 35) = M (a + 2 * i + 35) := fun i hi q => yM _ (by omega) (by omega) (by omega) (by omega) (by omega)
  have hV : ∀ v, v < 6 → Y (a + 5 * v + 4) = M (a + 5 * v + 4) := fun v hv => yM _ (by omega) (by omega) (by omega) (by omega) (by omega)
  have hkQ : ∀ v, v < 6 → n ∉ Q v := fun v hv z => by
    have := ((hold v hv).2.2.2.2.1 n).mp z
    omega
  have hkR : ∀ v, v < 6 → n ∉ R v := fun v hv z => by
    have := ((hold v hv).2.2.2.2.2 n).mp z
    omega
  have hY3 : Y (a + 2 * n + 34) 3 = nI 0 := by rw [yP]; rfl
  have hwz : zm_wz Y (a + 2 * n + 34) = w0 := by
    have : zm_wz Y (a + 2 * n + 34) = zm_wz X (a + 2 * n + 34) := by
      unfold zm_wz
      rw [yX (a + 2 * n + 34 + 1) (by omega) (by omega) (by omega), yP, xP]
      rfl
    rw [this, zk_wz hat]
  have wz : ∀ i, i < 24 → i ≠ n → zm_wz Y (a + 2 * i + 34) = zm_wz M (a + 2 * i + 34) := fun i hi q => by
    unfold zm_wz
    rw [hp i hi q, show Y (a + 2 * i + 34 + 1) = M (a + 2 * i + 34 + 1) from he i hi q]
  have hlQ : zl_L Y (a + 5 * w0 + 5) (Q w0 ++ [n]) := by
    rw [eY]
    refine zl_L.ap ((hold w0 hw0).1.eq ?_ ?_) (zl_room (hold w0 hw0).2.2.1 ((hold w0 hw0).q h1) hn (hkQ w0 hw0)) n
    · unfold xu_p; rw [xr_n _ _ (by omega), xr_n _ _ (by omega), xM _ (by omega) (by omega) (by omega)]
    · unfold xu_p; rw [xr_n _ _ (by omega), xr_n _ _ (by omega), xM _ (by omega) (by omega) (by omega)]
  refine ⟨⟨hn, by rw [yA]; rfl, by rw [yA]; exact h3, h4, v, h5, by rw [yM _ (by omega) (by omega) (by omega) (by omega) (by omega)]; exact h6⟩, fun k hk => ?_, fun k hk1 hk => ?_, fun k hk => ?_, fun w hw => by rw [hV w hw]; exact g4 w hw, ⟨fun v => if v = w0 then Q v ++ [n] else Q v, R, fun v hv => ?_⟩, ?_, ?_, ?_⟩
  · by_cases q : k = n
    · subst q; rw [yP]; exact hn0
    · rw [hp k hk q]; exact g1 k hk
  · rw [hp k hk (by omega)]; exact g2 k (by omega) hk
  · by_cases q : k = n
    · subst q
      rw [yP, yE]
      refine ⟨m, 0, hm1, hm8, rfl, n4, fun j hj => ?_, Or.inl ⟨Or.inl rfl, by omega, n10, Or.inl n5⟩⟩
      show ∃ w, w < 6 ∧ (if j < m then e j else _) = nI w
      rw [if_pos hj]
      exact hd j hj
    · rw [hp k (by omega) q, he k (by omega) q]; exact g3 k (by omega)
  · obtain ⟨e1, e2, e3, e4, e5, e6⟩ := hold v hv
    have hmem : ∀ i, i ≠ n → (i < n + 1 ↔ i < n) := fun i hi => by omega
    have hR : zl_L Y (a + 5 * v + 7) (R v) ∧ (R v).Nodup ∧ ∀ i, i ∈ R v ↔ i < n + 1 ∧ Y (a + 2 * i + 34) 3 = nI 1 ∧ zm_wz Y (a + 2 * i + 34) = v := by
      refine ⟨e2.eq (by rw [yM _ (by omega) (by omega) (by omega) (by omega) (by omega)]) (yM _ (by omega) (by omega) (by omega) (by omega) (by omega)), e4, fun i => ?_⟩
      by_cases q : i = n
      · subst q
        exact ⟨fun z => absurd z (hkR v hv), fun z => absurd (hY3.symm.trans z.2.1) zn_01⟩
      · rw [e6, hmem i q]
        constructor
        · rintro ⟨z1, z2⟩
          exact ⟨z1, by rw [hp i (by omega) q, wz i (by omega) q]; exact z2⟩
        · rintro ⟨z1, z2⟩
          exact ⟨z1, by rw [← wz i (by omega) q, ← hp i (by omega) q]; exact z2⟩
    have hQ : zl_L Y (a + 5 * v + 5) (if v = w0 then Q v ++ [n] else Q v) ∧ (if v = w0 then Q v ++ [n] else Q v).Nodup ∧ ∀ i, i ∈ (if v = w0 then Q v ++ [n] else Q v) ↔ i < n + 1 ∧ Y (a + 2 * i + 34) 3 = nI 0 ∧ zm_wz Y (a + 2 * i + 34) = v := by
      have hin : ∀ i, i ≠ n → (i ∈ (if v = w0 then Q v ++ [n] else Q v) ↔ i ∈ Q v) := fun i hi => by
        split
        · rw [List.mem_append, List.mem_singleton]; exact ⟨fun z => z.resolve_right hi, Or.inl⟩
        · exact Iff.rfl
      have hins : n ∈ (if v = w0 then Q v ++ [n] else Q v) ↔ v = w0 := by
        by_cases q : v = w0
        · rw [if_pos q]; exact ⟨fun _ => q, fun _ => List.mem_append.mpr (Or.inr (List.mem_singleton.mpr rfl))⟩
        · rw [if_neg q]; exact ⟨fun z => absurd z (hkQ v hv), fun z => absurd z q⟩
      refine ⟨?_, ?_, fun i => ?_⟩
      · by_cases q : v = w0
        · subst q; rw [if_pos rfl]; exact hlQ
        · rw [if_neg q]; exact e1.eq (by rw [yM _ (by omega) (by omega) (by omega) (by omega) (by omega)]) (yM _ (by omega) (by omega) (by omega) (by omega) (by omega))
      · split
        · exact zl_apN e3 (hkQ v hv)
        · exact e3
      · by_cases q : i = n
        · subst q
          rw [hins]
          exact ⟨fun z => ⟨by omega, hY3, hwz.trans z.symm⟩, fun z => z.2.2.symm.trans hwz⟩
        · rw [hin i q, e5, hmem i q]
          constructor
          · rintro ⟨z1, z2⟩
            exact ⟨z1, by rw [hp i (by omega) q, wz i (by omega) q]; exact z2⟩
          · rintro ⟨z1, z2⟩
            exact ⟨z1, by rw [← wz i (by omega) q, ← hp i (by omega) q]; exact z2⟩
    exact ⟨hQ.1, hR.1, hQ.2.1, hR.2.1, hQ.2.2, hR.2.2⟩
  · rw [zs_c (f := fun w => M (a + 5 * w + 4) 2) (g := fun w => Y (a + 5 * w + 4) 2) (fun w hw => by rw [hV w hw]), zs_c (f := fun k => zm_h (M (a + 2 * k + 34) 5)) (g := fun k => zm_h (Y (a + 2 * k + 34) 5)) (fun k hk => by
      by_cases q : k = n
      · subst q; rw [yP]; rfl
      · rw [hp k hk q]), yA]
    exact g6
  · rw [zs_c (f := fun w => M (a + 5 * w + 4) 4) (g := fun w => Y (a + 5 * w + 4) 4) (fun w hw => by rw [hV w hw]), zs_c (f := fun k => M (a + 2 * k + 34) 9) (g := fun k => Y (a + 2 * k + 34) 9) (fun k hk => by
      by_cases q : k = n
      · subst q; rw [yP]; rfl
      · rw [hp k hk q])]
    exact g7
  · rw [zs_c (f := fun w => M (a + 5 * w + 4) 3) (g := fun w => Y (a + 5 * w + 4) 3) (fun w hw => by rw [hV w hw]), zs_c (f := fun k => M (a + 2 * k + 34) 9) (g := fun k => Y (a + 2 * k + 34) 9) (fun k hk => by
      by_cases q : k = n
      · subst q; rw [yP]; rfl
      · rw [hp k hk q]), zs_c (f := fun k => M (a + 2 * k + 34) 4) (g := fun k => Y (a + 2 * k + 34) 4) (fun k hk => by
      by_cases q : k = n
      · subst q; rw [yP]; rfl
      · rw [hp k hk q])]
    exact g8
/-- a setting, a window's door, its clerks: nothing of it matters, but for HALVES' bound -/
theorem zi_set {a n T G B s : Nat} {M : xm_T} {v : Int32} (h : zi a M n T G B) (hv : s = 1 → ∃ y, y ≤ 20 ∧ v = nI y) : zi a (xu_p M (a + 1) s v) n T G B := by
  obtain ⟨⟨h1, h2, h3, h4, y, h5, h6⟩, g⟩ := h
  have o : ∀ x, x ≠ a + 1 → xu_p M (a + 1) s v x = M x := fun x hx => xr_n _ _ hx
  have key : zi a (xu_p M (a + 1) s v) n T G B ↔ zi_A a n T G (xu_p M (a + 1) s v) ∧ ((∀ k, k < 24 → M (a + 2 * k + 34) 0 = nI k) ∧ (∀ k, n ≤ k → k < 24 → zi_N (M (a + 2 * k + 34))) ∧ (∀ k, k < n → zi_P G (M (a + 2 * k + 34)) (M (a + 2 * k + 35))) ∧ (∀ w, w < 6 → zi_W B (M (a + 5 * w + 4))) ∧ zi_L a n M ∧ zi_S a M) := by
    have e : zi_L a n (xu_p M (a + 1) s v) ↔ zi_L a n M := by
      unfold zi_L zi_Lw zl_L zm_wz
      simp (disch := omega) only [o]
    have e2 : zi_S a (xu_p M (a + 1) s v) ↔ zi_S a M := by
      unfold zi_S
      simp (disch := omega) only [o]
    unfold zi
    rw [e, e2]
    simp (disch := omega) only [o]
  rw [key]
  refine ⟨⟨h1, by rw [o a (by omega)]; exact h2, by rw [o a (by omega)]; exact h3, h4, ?_⟩, g⟩
  by_cases q : s = 1
  · obtain ⟨z, z1, z2⟩ := hv q
    exact ⟨z, z1, by subst q; rw [xu_s]; exact z2⟩
  · exact ⟨y, h5, by rw [xu_n _ (Or.inr (Ne.symm q))]; exact h6⟩
theorem zi_win {a n T G B w s : Nat} {M : xm_T} {v : Int32} (h : zi a M n T G B) (hw : w < 6) (hs : s < 2) : zi a (xu_p M (a + 5 * w + 4) s v) n T G B := by
  have o : ∀ x, x ≠ a + 5 * w + 4 → xu_p M (a + 5 * w + 4) s v x = M x := fun x hx => xr_n _ _ hx
  refine zi_cg h ⟨fun i _ _ => by rw [o a (by omega)], by rw [o _ (by omega)], fun k hk => ⟨fun i _ => by rw [o _ (by omega)], o _ (by omega)⟩, fun u hu => ⟨fun i hi hi2 => ?_, by rw [o _ (by omega)], o _ (by omega), by rw [o _ (by omega)], o _ (by omega)⟩⟩
  exact xu_n _ (Or.inr (by omega))
/-- halves are brought -/
theorem zi_bri {a n T G B w x : Nat} {M : xm_T} (h : zi a M n T G B) (hw : w < 6) (hB : 20 ≤ B) (hb : ∃ y, y ≤ B ∧ M (a + 5 * w + 4) 2 + nI x = nI y) : zi a (xu_p (xu_p M (a + 5 * w + 4) 2 (M (a + 5 * w + 4) 2 + nI x)) a 6 (M a 6 + nI x)) n T G B := by
  obtain ⟨⟨h1, h2, h3, h4, y, h5, h6⟩, g1, g2, g3, g4, g5, s1, s2, s3⟩ := h
  obtain ⟨N, eN⟩ : ∃ N, N = xu_p (xu_p M (a + 5 * w + 4) 2 (M (a + 5 * w + 4) 2 + nI x)) a 6 (M a 6 + nI x) := ⟨_, rfl⟩
  rw [← eN]
  have o : ∀ z, z ≠ a → z ≠ a + 5 * w + 4 → N z = M z := fun z z1 z2 => by rw [eN]; unfold xu_p; rw [xr_n _ _ z1, xr_n _ _ z2]
  have nA : N a = upd (M a) 6 (M a 6 + nI x) := by rw [eN]; unfold xu_p; rw [xr_s, xr_n _ _ (by omega)]
  have nV : N (a + 5 * w + 4) = upd (M (a + 5 * w + 4)) 2 (M (a + 5 * w + 4) 2 + nI x) := by rw [eN]; unfold xu_p; rw [xr_n _ _ (by omega), xr_s]
  have hP : ∀ k, N (a + 2 * k + 34) = M (a + 2 * k + 34) := fun k => o _ (by omega) (by omega)
  have hE : ∀ k, N (a + 2 * k + 35) = M (a + 2 * k + 35) := fun k => o _ (by omega) (by omega)
  have wz : ∀ k, zm_wz N (a + 2 * k + 34) = zm_wz M (a + 2 * k + 34) := fun k => by unfold zm_wz; rw [hP, show N (a + 2 * k + 34 + 1) = M (a + 2 * k + 34 + 1) from hE k]
  refine ⟨⟨h1, by rw [nA]; exact h2, by rw [nA]; exact h3, h4, y, h5, by rw [o _ (by omega) (by omega)]; exact h6⟩, fun k hk => by rw [hP]; exact g1 k hk, fun k z hk => by rw [hP]; exact g2 k z hk, fun k hk => by rw [hP, hE]; exact g3 k hk, fun v hv => ?_, ?_, ?_, ?_, ?_⟩
  · by_cases q : v = w
    · subst q
      obtain ⟨c, s, b, c1, c2, c3, c4, c5, c6⟩ := g4 v hv
      obtain ⟨z, z1, z2⟩ := hb
      rw [nV]
      exact ⟨z, s, b, z1, c2, c3, z2, c5, c6⟩
    · rw [o _ (by omega) (by omega)]; exact g4 v hv
  · obtain ⟨Q, R, hold⟩ := g5
    refine ⟨Q, R, fun v hv => ?_⟩
    obtain ⟨e1, e2, e3, e4, e5, e6⟩ := hold v hv
    exact ⟨e1.eq (by rw [o _ (by omega) (by omega)]) (o _ (by omega) (by omega)), e2.eq (by rw [o _ (by omega) (by omega)]) (o _ (by omega) (by omega)), e3, e4, fun k => by rw [e5, wz, hP], fun k => by rw [e6, wz, hP]⟩
  · rw [zs_up (f := fun w => M (a + 5 * w + 4) 2) (g := fun w => N (a + 5 * w + 4) 2) hw (fun v hv q => by show N (a + 5 * v + 4) 2 = _; rw [o _ (by omega) (by omega)]), zs_c (f := fun k => zm_h (M (a + 2 * k + 34) 5)) (g := fun k => zm_h (N (a + 2 * k + 34) 5)) (fun k _ => by rw [hP]), nA, nV]
    show _ + (M (a + 5 * w + 4) 2 + nI x - M (a + 5 * w + 4) 2) + _ + M a 5 = nI 48 + (M a 6 + nI x)
    grind
  · rw [zs_c (f := fun w => M (a + 5 * w + 4) 4) (g := fun w => N (a + 5 * w + 4) 4) (fun v hv => by
      by_cases q : v = w
      · subst q; rw [nV]; rfl
      · rw [o _ (by omega) (by omega)]), zs_c (f := fun k => M (a + 2 * k + 34) 9) (g := fun k => N (a + 2 * k + 34) 9) (fun k _ => by rw [hP])]
    exact s2
  · rw [zs_c (f := fun w => M (a + 5 * w + 4) 3) (g := fun w => N (a + 5 * w + 4) 3) (fun v hv => by
      by_cases q : v = w
      · subst q; rw [nV]; rfl
      · rw [o _ (by omega) (by omega)]), zs_c (f := fun k => M (a + 2 * k + 34) 9) (g := fun k => N (a + 2 * k + 34) 9) (fun k _ => by rw [hP]), zs_c (f := fun k => M (a + 2 * k + 34) 4) (g := fun k => N (a + 2 * k + 34) 4) (fun k _ => by rw [hP])]
    exact s3
