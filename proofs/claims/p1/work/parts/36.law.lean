/-! A CALL IN THE LAW: the callee's cells Ac are among the law's Aw; what lies outside stays -/
theorem xl_mk {G : va_G} {g : Nat → ClassId} {t0 τ : Nat → Nat} {Ac Aw : Nat → Prop} {M : xm_T} {s U : State} {H : Heap} {locs : List Loc} (hK : va_K G vwCl (xw_tys g) s) (hst : xw_st t0 Aw s s.heap) (hnw : xw_nw g s) (hAc : ∀ q, Ac q → Aw q) (hAw : ∀ q, Aw q → s.heap.size ≤ q) (hS : va_S Aw s.heap H locs) (hW : xw_D G g τ M H) (hU : U.heap = H) (hWm : s.WarmedH U.vm) : xS_t G g t0 τ Ac M U :=
  ⟨by rw [hU]; exact hW, va_K.moved hWm.alike hK, ((hst.narrow hAc).moved hWm.alike).kept (fun a h1 _ => by rw [hU]; exact hS.2.1 a h1 (fun z => absurd (hAw a z) (Nat.not_le.mpr h1))), hnw.warm hWm⟩
theorem xl_V {p : Program} {l : Launch} {e : Env} {R : Room} {s : State} {m : MethodId} {args : Array Value} {below : List Frame} {meth : Method} {c : Code} {H : Heap} {locs : List Loc} {cells slots : Nat} {Q : State → Prop} {cc : ByteArray} {pc : Nat} {ls : Array Slot} {rest : List Value} {G : va_G} {g : Nat → ClassId} {t0 τ : Nat → Nat} {Ac Aw : Nat → Prop} {M : xm_T} {κ : Nat}
    {y : MethodName} {bytes : ByteArray} {maxL nL n index : Nat} {ret : Option FieldType} {ws : List Cond} {rm : Room} {post : Int32 → xm_T → Prop} {Ts : List Cond} {own C : String} {b ci : Nat} {T : u_T} {N : Nat} {As st : List Value} {fs : List Value}
    (S : CallFix p m c cc nL s args Ts own) (hM : Met l y ws rm (va_Pc (.ref b :: As) (xS_t G g t0 τ Ac M)) (va_Qi post (fun M' t => xw_D G g τ M' t.heap) Ac) 0 0 Ac) (cw : CallW R s args own C index y bytes maxL ret ws rm 0 0 n) (hK : va_K G vwCl (xw_tys g) s) (hst : xw_st t0 Aw s s.heap) (hnw : xw_nw g s) (hAc : ∀ q, Ac q → Aw q) (hAw : ∀ q, Aw q → s.heap.size ≤ q) (hS : va_S Aw s.heap H locs) (hW : xw_D G g τ M H) (hτ : τ b = κ) (hκ : κ ≠ 0) (hcell : xw_cell g κ (M b) b = .inr (ci, fs)) (hc : vwCl[ci]? = some (C, T, N))
    (hn : As.length = n) (hsize : ls.size = nL) (hstack : st = As.reverse ++ .ref b :: rest) (hWd : (rest.map fun v => v.category).sum ≤ 8) (hdg : decode cc pc = .ok (.invokevirtual index, 3)) (hf : cells ≤ R.cells ∧ slots ≤ R.slots)
    (kk : ∀ (r : Int32) (M' : xm_T) (H1 : Heap) (locs1 : List Loc), post r M' → (∀ q, q < H.size → ¬ Ac q → H1[q]? = H[q]?) → va_S Aw s.heap H1 locs1 → W p l e R s m args below meth c H1 locs1 cells slots Q (F0 m (pc + 3) ls (.int r :: rest))) : W p l e R s m args below meth c H locs cells slots Q (F0 m pc ls st) :=
  va_calli (va_runV S hM cw ⟨xS_blind _, va_recv hK (xw_P1 (xw_at hW hτ hκ hcell)) (q0 := 0) hc rfl, fun U hU hWm => ⟨rfl, xl_mk hK hst hnw hAc hAw hS hW hU hWm⟩⟩ rfl hn hsize hstack (lv_room hWd) hdg hf) hS (fun q _ h => hAc q h) hAc (fun r u t H1 locs1 ht _ hp hB _ hk1 hS1 => kk r u H1 locs1 hp hk1 hS1)
/-- what holds in the law behind the two constructors -/
def lx_I (p : Program) (s : State) (m : MethodId) (meth : Method) (c : Code) (b : Nat) (xs : Nat → Int32) (L : Nat) (G : va_G) (g : Nat → ClassId) (t0 : Nat → Nat) (H : Heap) (locs : List Loc) : Prop :=
  lw_At p s m meth c b L xs ∧ va_K G vwCl (xw_tys g) s ∧ xw_st t0 (fun q => s.heap.size ≤ q) s s.heap ∧ xw_nw g s ∧ va_S (fun q => s.heap.size ≤ q) s.heap H locs ∧ xk_B G g s.heap.size H ∧ xk_R G g (s.heap.size + 827) H ∧ H.size = s.heap.size + 837

set_option maxHeartbeats 4000000 in
set_option maxRecDepth 100000 in
theorem lx_0 {p : Program} {e : Env} {s : State} {m : MethodId} {below : List Frame} {meth : Method} {c : Code} (l : Launch) {b : Nat} {xs : Nat → Int32} {G : va_G} {g : Nat → ClassId} {t0 : Nat → Nat} {H : Heap} {locs : List Loc} {ls : Array Slot} (I : lx_I p s m meth c b xs 3 G g t0 H locs) (hl : lv_has ls 4 [(3, .int (nI 0)), (2, .ref (s.heap.size + 827)), (1, .ref s.heap.size), (0, .ref b)]) (kk : ∀ (H : Heap) (locs : List Loc) (ls : Array Slot), va_S (fun q => s.heap.size ≤ q) s.heap H locs → lv_has ls 4 [(3, .int (nI 0)), (2, .ref (s.heap.size + 827)), (1, .ref s.heap.size), (0, .ref b)] → W p l e room_1 s m #[Value.ref b] below meth c H locs 837 12239 (lw_Z below #[Value.ref b] s) (F0 m 634 ls [])) : W p l e room_1 s m #[Value.ref b] below meth c H locs 837 12239 (lw_Z below #[Value.ref b] s) (F0 m 128 ls []) := by
  obtain ⟨⟨hx, hb, hr, hml, hown, htb, hX, hbl, hlocks, hgv⟩, hK, hst, hnw, hS, hB, hR, hz⟩ := I
  have hts : ∀ w ∈ wsL_law, w.before #[Value.ref b] s = true := fun w h => htb w (wsL_law_in w h)
  have hbA : ¬ (fun q => s.heap.size ≤ q) b := Nat.not_le.mpr hbl
  obtain ⟨v1, hv1⟩ : ∃ v, v = xs ((nI 0) + (nI 1)).toNatClampNeg := ⟨_, rfl⟩
  obtain ⟨v2, hv2⟩ : ∃ v, v = xs ((nI 0) + (nI 2)).toNatClampNeg := ⟨_, rfl⟩
  refine lv_aload_n hx hb dL_law_128 rfl (lv_at hl 2 rfl) ?_
  refine lv_aload_n hx hb dL_law_129 rfl (lv_at hl 3 rfl) ?_
  refine lv_iload_n hx hb dL_law_130 rfl (lv_at hl 0 rfl) ?_
  refine lv_iconst (v := (nI 1)) hx hb dL_law_131 (by decide) ?_
  refine lv_iadd hx hb dL_law_132 ?_
  refine va_sld hx hb hX hbl hbA hS (i := ((nI 0) + (nI 1))) (by unfold vp_in; decide) dL_law_133 ?_
  rw [← hv1]
  refine lv_aload_n hx hb dL_law_134 rfl (lv_at hl 3 rfl) ?_
  refine lv_iload_n hx hb dL_law_135 rfl (lv_at hl 0 rfl) ?_
  refine lv_iconst (v := (nI 2)) hx hb dL_law_136 (by decide) ?_
  refine lv_iadd hx hb dL_law_137 ?_
  refine va_sld hx hb hX hbl hbA hS (i := ((nI 0) + (nI 2))) (by unfold vp_in; decide) dL_law_138 ?_
  rw [← hv2]
  refine xl_V (As := [.int v1, .int v2]) (rest := []) (κ := 16) (τ := xz_t s.heap.size) (M := xd_m s.heap.size) (Ac := fun q => s.heap.size ≤ q ∧ q < s.heap.size + 827) (Aw := (fun q => s.heap.size ≤ q)) ⟨hx, hb, hml, hown, hts⟩ (cp_set l (xz_O s.heap.size) (xd_m s.heap.size) s.heap.size (xz_16 _) (xp_h _) v1 v2) (cwV 2 hts gL_law_X6_set rfl rfl rfl (by decide +kernel) ⟨Nat.le_of_ble_eq_true rfl, Nat.le_of_ble_eq_true rfl⟩) hK hst hnw (fun _ q => q.1) (fun _ q => q) hS (xz_D hB) (xz_16 _) (by decide) rfl rfl rfl hl.1 rfl (Nat.le_of_ble_eq_true rfl) dL_law_139 ⟨Nat.le_of_ble_eq_true rfl, Nat.le_of_ble_eq_true rfl⟩ (fun r_1 M_3 H1 locs hq_2 hk1 hS => ?_)
  replace hR := hR.kept (fun q hq => hk1 q (by omega) (by show ¬ (s.heap.size ≤ q ∧ q < s.heap.size + 827); omega))
  clear hk1
  refine lv_aload_n hx hb dL_law_142 rfl (lv_at hl 1 rfl) ?_
  refine lv_aload_n hx hb dL_law_143 rfl (lv_at hl 3 rfl) ?_
  refine lv_iload_n hx hb dL_law_144 rfl (lv_at hl 0 rfl) ?_
  refine lv_iconst (v := (nI 1)) hx hb dL_law_145 (by decide) ?_
  refine lv_iadd hx hb dL_law_146 ?_
  refine va_sld hx hb hX hbl hbA hS (i := ((nI 0) + (nI 1))) (by unfold vp_in; decide) dL_law_147 ?_
  rw [← hv1]
  refine lv_aload_n hx hb dL_law_148 rfl (lv_at hl 3 rfl) ?_
  refine lv_iload_n hx hb dL_law_149 rfl (lv_at hl 0 rfl) ?_
  refine lv_iconst (v := (nI 2)) hx hb dL_law_150 (by decide) ?_
  refine lv_iadd hx hb dL_law_151 ?_
  refine va_sld hx hb hX hbl hbA hS (i := ((nI 0) + (nI 2))) (by unfold vp_in; decide) dL_law_152 ?_
  rw [← hv2]
  refine xl_V (As := [.int v1, .int v2]) (rest := [.int r_1]) (κ := 20) (τ := xy_t (s.heap.size + 827)) (M := xy_m (s.heap.size + 827)) (Ac := fun q => s.heap.size + 827 ≤ q) (Aw := (fun q => s.heap.size ≤ q)) ⟨hx, hb, hml, hown, hts⟩ (cm_set l (xy_O (s.heap.size + 827)) (xy_m (s.heap.size + 827)) (s.heap.size + 827) (xy_20 _) (xy_h _) v1 v2) (cwV 2 hts gL_law_X7_set rfl rfl rfl (by decide +kernel) ⟨Nat.le_of_ble_eq_true rfl, Nat.le_of_ble_eq_true rfl⟩) hK hst hnw (fun _ q => Nat.le_trans (Nat.le_add_right _ _) q) (fun _ q => q) hS (xy_D hR) (xy_20 _) (by decide) rfl rfl rfl hl.1 rfl (Nat.le_of_ble_eq_true rfl) dL_law_153 ⟨Nat.le_of_ble_eq_true rfl, Nat.le_of_ble_eq_true rfl⟩ (fun r_4 M_6 H1 locs hq_5 hk1 hS => ?_)
  clear hk1
  refine lv_icmp_eq (tgt := 634) hx hb dL_law_156 (by decide) (fun c_7 => ?_) (fun c_7 => ?_)
  · exact kk _ _ _ hS hl
  · exact absurd (hq_2.trans hq_5.symm) c_7

set_option maxHeartbeats 4000000 in
set_option maxRecDepth 100000 in
theorem lx_1 {p : Program} {e : Env} {s : State} {m : MethodId} {below : List Frame} {meth : Method} {c : Code} (l : Launch) {b : Nat} {xs : Nat → Int32} {G : va_G} {g : Nat → ClassId} {t0 : Nat → Nat} {H : Heap} {locs : List Loc} {ls : Array Slot} (I : lx_I p s m meth c b xs 3 G g t0 H locs) (hl : lv_has ls 4 [(3, .int (nI 0)), (2, .ref (s.heap.size + 827)), (1, .ref s.heap.size), (0, .ref b)]) (kk : ∀ (H : Heap) (locs : List Loc) (ls : Array Slot), va_S (fun q => s.heap.size ≤ q) s.heap H locs → lv_has ls 4 [(3, .int (nI 0)), (2, .ref (s.heap.size + 827)), (1, .ref s.heap.size), (0, .ref b)] → W p l e room_1 s m #[Value.ref b] below meth c H locs 837 12239 (lw_Z below #[Value.ref b] s) (F0 m 634 ls [])) : W p l e room_1 s m #[Value.ref b] below meth c H locs 837 12239 (lw_Z below #[Value.ref b] s) (F0 m 161 ls []) := by
  obtain ⟨⟨hx, hb, hr, hml, hown, htb, hX, hbl, hlocks, hgv⟩, hK, hst, hnw, hS, hB, hR, hz⟩ := I
  have hts : ∀ w ∈ wsL_law, w.before #[Value.ref b] s = true := fun w h => htb w (wsL_law_in w h)
  have hbA : ¬ (fun q => s.heap.size ≤ q) b := Nat.not_le.mpr hbl
  obtain ⟨v1, hv1⟩ : ∃ v, v = xs ((nI 0) + (nI 1)).toNatClampNeg := ⟨_, rfl⟩
  obtain ⟨v2, hv2⟩ : ∃ v, v = xs ((nI 0) + (nI 2)).toNatClampNeg := ⟨_, rfl⟩
  refine lv_aload_n hx hb dL_law_161 rfl (lv_at hl 2 rfl) ?_
  refine lv_aload_n hx hb dL_law_162 rfl (lv_at hl 3 rfl) ?_
  refine lv_iload_n hx hb dL_law_163 rfl (lv_at hl 0 rfl) ?_
  refine lv_iconst (v := (nI 1)) hx hb dL_law_164 (by decide) ?_
  refine lv_iadd hx hb dL_law_165 ?_
  refine va_sld hx hb hX hbl hbA hS (i := ((nI 0) + (nI 1))) (by unfold vp_in; decide) dL_law_166 ?_
  rw [← hv1]
  refine lv_aload_n hx hb dL_law_167 rfl (lv_at hl 3 rfl) ?_
  refine lv_iload_n hx hb dL_law_168 rfl (lv_at hl 0 rfl) ?_
  refine lv_iconst (v := (nI 2)) hx hb dL_law_169 (by decide) ?_
  refine lv_iadd hx hb dL_law_170 ?_
  refine va_sld hx hb hX hbl hbA hS (i := ((nI 0) + (nI 2))) (by unfold vp_in; decide) dL_law_171 ?_
  rw [← hv2]
  refine lv_if_eq (tgt := 179) hx hb dL_law_172 (by decide) (fun c_1 => ?_) (fun c_1 => ?_)
  · refine lv_iconst (v := (nI 0)) hx hb dL_law_179 (by decide) ?_
    refine xl_V (As := [.int v1, .int (nI 0)]) (rest := []) (κ := 16) (τ := xz_t s.heap.size) (M := xd_m s.heap.size) (Ac := fun q => s.heap.size ≤ q ∧ q < s.heap.size + 827) (Aw := (fun q => s.heap.size ≤ q)) ⟨hx, hb, hml, hown, hts⟩ (cp_window l (xz_O s.heap.size) (xd_m s.heap.size) s.heap.size (xz_16 _) (xp_h _) v1 (nI 0) xb_0) (cwV 2 hts gL_law_X6_window rfl rfl rfl (by decide +kernel) ⟨Nat.le_of_ble_eq_true rfl, Nat.le_of_ble_eq_true rfl⟩) hK hst hnw (fun _ q => q.1) (fun _ q => q) hS (xz_D hB) (xz_16 _) (by decide) rfl rfl rfl hl.1 rfl (Nat.le_of_ble_eq_true rfl) dL_law_180 ⟨Nat.le_of_ble_eq_true rfl, Nat.le_of_ble_eq_true rfl⟩ (fun r_2 M_4 H1 locs hq_3 hk1 hS => ?_)
    replace hR := hR.kept (fun q hq => hk1 q (by omega) (by show ¬ (s.heap.size ≤ q ∧ q < s.heap.size + 827); omega))
    clear hk1
    refine lv_aload_n hx hb dL_law_183 rfl (lv_at hl 1 rfl) ?_
    refine lv_aload_n hx hb dL_law_184 rfl (lv_at hl 3 rfl) ?_
    refine lv_iload_n hx hb dL_law_185 rfl (lv_at hl 0 rfl) ?_
    refine lv_iconst (v := (nI 1)) hx hb dL_law_186 (by decide) ?_
    refine lv_iadd hx hb dL_law_187 ?_
    refine va_sld hx hb hX hbl hbA hS (i := ((nI 0) + (nI 1))) (by unfold vp_in; decide) dL_law_188 ?_
    rw [← hv1]
    refine lv_aload_n hx hb dL_law_189 rfl (lv_at hl 3 rfl) ?_
    refine lv_iload_n hx hb dL_law_190 rfl (lv_at hl 0 rfl) ?_
    refine lv_iconst (v := (nI 2)) hx hb dL_law_191 (by decide) ?_
    refine lv_iadd hx hb dL_law_192 ?_
    refine va_sld hx hb hX hbl hbA hS (i := ((nI 0) + (nI 2))) (by unfold vp_in; decide) dL_law_193 ?_
    rw [← hv2]
    refine lv_if_eq (tgt := 201) hx hb dL_law_194 (by decide) (fun c_5 => ?_) (fun c_5 => ?_)
    · refine lv_iconst (v := (nI 0)) hx hb dL_law_201 (by decide) ?_
      refine xl_V (As := [.int v1, .int (nI 0)]) (rest := [.int r_2]) (κ := 20) (τ := xy_t (s.heap.size + 827)) (M := xy_m (s.heap.size + 827)) (Ac := fun q => s.heap.size + 827 ≤ q) (Aw := (fun q => s.heap.size ≤ q)) ⟨hx, hb, hml, hown, hts⟩ (cm_window l (xy_O (s.heap.size + 827)) (xy_m (s.heap.size + 827)) (s.heap.size + 827) (xy_20 _) (xy_h _) v1 (nI 0) xb_0) (cwV 2 hts gL_law_X7_window rfl rfl rfl (by decide +kernel) ⟨Nat.le_of_ble_eq_true rfl, Nat.le_of_ble_eq_true rfl⟩) hK hst hnw (fun _ q => Nat.le_trans (Nat.le_add_right _ _) q) (fun _ q => q) hS (xy_D hR) (xy_20 _) (by decide) rfl rfl rfl hl.1 rfl (Nat.le_of_ble_eq_true rfl) dL_law_202 ⟨Nat.le_of_ble_eq_true rfl, Nat.le_of_ble_eq_true rfl⟩ (fun r_6 M_8 H1 locs hq_7 hk1 hS => ?_)
      clear hk1
      refine lv_icmp_eq (tgt := 634) hx hb dL_law_205 (by decide) (fun c_9 => ?_) (fun c_9 => ?_)
      · exact kk _ _ _ hS hl
      · exact absurd (hq_3.trans hq_7.symm) c_9
    · exact absurd c_1 c_5
  · refine lv_iconst (v := (nI 1)) hx hb dL_law_175 (by decide) ?_
    refine lv_goto (tgt := 180) hx hb dL_law_176 (by decide) ?_
    refine xl_V (As := [.int v1, .int (nI 1)]) (rest := []) (κ := 16) (τ := xz_t s.heap.size) (M := xd_m s.heap.size) (Ac := fun q => s.heap.size ≤ q ∧ q < s.heap.size + 827) (Aw := (fun q => s.heap.size ≤ q)) ⟨hx, hb, hml, hown, hts⟩ (cp_window l (xz_O s.heap.size) (xd_m s.heap.size) s.heap.size (xz_16 _) (xp_h _) v1 (nI 1) xb_1) (cwV 2 hts gL_law_X6_window rfl rfl rfl (by decide +kernel) ⟨Nat.le_of_ble_eq_true rfl, Nat.le_of_ble_eq_true rfl⟩) hK hst hnw (fun _ q => q.1) (fun _ q => q) hS (xz_D hB) (xz_16 _) (by decide) rfl rfl rfl hl.1 rfl (Nat.le_of_ble_eq_true rfl) dL_law_180 ⟨Nat.le_of_ble_eq_true rfl, Nat.le_of_ble_eq_true rfl⟩ (fun r_10 M_12 H1 locs hq_11 hk1 hS => ?_)
    replace hR := hR.kept (fun q hq => hk1 q (by omega) (by show ¬ (s.heap.size ≤ q ∧ q < s.heap.size + 827); omega))
    clear hk1
    refine lv_aload_n hx hb dL_law_183 rfl (lv_at hl 1 rfl) ?_
    refine lv_aload_n hx hb dL_law_184 rfl (lv_at hl 3 rfl) ?_
    refine lv_iload_n hx hb dL_law_185 rfl (lv_at hl 0 rfl) ?_
    refine lv_iconst (v := (nI 1)) hx hb dL_law_186 (by decide) ?_
    refine lv_iadd hx hb dL_law_187 ?_
    refine va_sld hx hb hX hbl hbA hS (i := ((nI 0) + (nI 1))) (by unfold vp_in; decide) dL_law_188 ?_
    rw [← hv1]
    refine lv_aload_n hx hb dL_law_189 rfl (lv_at hl 3 rfl) ?_
    refine lv_iload_n hx hb dL_law_190 rfl (lv_at hl 0 rfl) ?_
    refine lv_iconst (v := (nI 2)) hx hb dL_law_191 (by decide) ?_
    refine lv_iadd hx hb dL_law_192 ?_
    refine va_sld hx hb hX hbl hbA hS (i := ((nI 0) + (nI 2))) (by unfold vp_in; decide) dL_law_193 ?_
    rw [← hv2]
    refine lv_if_eq (tgt := 201) hx hb dL_law_194 (by decide) (fun c_13 => ?_) (fun c_13 => ?_)
    · exact absurd c_13 c_1
    · refine lv_iconst (v := (nI 1)) hx hb dL_law_197 (by decide) ?_
      refine lv_goto (tgt := 202) hx hb dL_law_198 (by decide) ?_
      refine xl_V (As := [.int v1, .int (nI 1)]) (rest := [.int r_10]) (κ := 20) (τ := xy_t (s.heap.size + 827)) (M := xy_m (s.heap.size + 827)) (Ac := fun q => s.heap.size + 827 ≤ q) (Aw := (fun q => s.heap.size ≤ q)) ⟨hx, hb, hml, hown, hts⟩ (cm_window l (xy_O (s.heap.size + 827)) (xy_m (s.heap.size + 827)) (s.heap.size + 827) (xy_20 _) (xy_h _) v1 (nI 1) xb_1) (cwV 2 hts gL_law_X7_window rfl rfl rfl (by decide +kernel) ⟨Nat.le_of_ble_eq_true rfl, Nat.le_of_ble_eq_true rfl⟩) hK hst hnw (fun _ q => Nat.le_trans (Nat.le_add_right _ _) q) (fun _ q => q) hS (xy_D hR) (xy_20 _) (by decide) rfl rfl rfl hl.1 rfl (Nat.le_of_ble_eq_true rfl) dL_law_202 ⟨Nat.le_of_ble_eq_true rfl, Nat.le_of_ble_eq_true rfl⟩ (fun r_14 M_16 H1 locs hq_15 hk1 hS => ?_)
      clear hk1
      refine lv_icmp_eq (tgt := 634) hx hb dL_law_205 (by decide) (fun c_17 => ?_) (fun c_17 => ?_)
      · exact kk _ _ _ hS hl
      · exact absurd (hq_11.trans hq_15.symm) c_17

set_option maxHeartbeats 4000000 in
set_option maxRecDepth 100000 in
theorem lx_2 {p : Program} {e : Env} {s : State} {m : MethodId} {below : List Frame} {meth : Method} {c : Code} (l : Launch) {b : Nat} {xs : Nat → Int32} {G : va_G} {g : Nat → ClassId} {t0 : Nat → Nat} {H : Heap} {locs : List Loc} {ls : Array Slot} (I : lx_I p s m meth c b xs 3 G g t0 H locs) (hl : lv_has ls 4 [(3, .int (nI 0)), (2, .ref (s.heap.size + 827)), (1, .ref s.heap.size), (0, .ref b)]) (kk : ∀ (H : Heap) (locs : List Loc) (ls : Array Slot), va_S (fun q => s.heap.size ≤ q) s.heap H locs → lv_has ls 4 [(3, .int (nI 0)), (2, .ref (s.heap.size + 827)), (1, .ref s.heap.size), (0, .ref b)] → W p l e room_1 s m #[Value.ref b] below meth c H locs 837 12239 (lw_Z below #[Value.ref b] s) (F0 m 634 ls [])) : W p l e room_1 s m #[Value.ref b] below meth c H locs 837 12239 (lw_Z below #[Value.ref b] s) (F0 m 210 ls []) := by
  obtain ⟨⟨hx, hb, hr, hml, hown, htb, hX, hbl, hlocks, hgv⟩, hK, hst, hnw, hS, hB, hR, hz⟩ := I
  have hts : ∀ w ∈ wsL_law, w.before #[Value.ref b] s = true := fun w h => htb w (wsL_law_in w h)
  have hbA : ¬ (fun q => s.heap.size ≤ q) b := Nat.not_le.mpr hbl
  obtain ⟨v1, hv1⟩ : ∃ v, v = xs ((nI 0) + (nI 1)).toNatClampNeg := ⟨_, rfl⟩
  obtain ⟨v2, hv2⟩ : ∃ v, v = xs ((nI 0) + (nI 2)).toNatClampNeg := ⟨_, rfl⟩
  refine lv_aload_n hx hb dL_law_210 rfl (lv_at hl 2 rfl) ?_
  refine lv_aload_n hx hb dL_law_211 rfl (lv_at hl 3 rfl) ?_
  refine lv_iload_n hx hb dL_law_212 rfl (lv_at hl 0 rfl) ?_
  refine lv_iconst (v := (nI 1)) hx hb dL_law_213 (by decide) ?_
  refine lv_iadd hx hb dL_law_214 ?_
  refine va_sld hx hb hX hbl hbA hS (i := ((nI 0) + (nI 1))) (by unfold vp_in; decide) dL_law_215 ?_
  rw [← hv1]
  refine lv_aload_n hx hb dL_law_216 rfl (lv_at hl 3 rfl) ?_
  refine lv_iload_n hx hb dL_law_217 rfl (lv_at hl 0 rfl) ?_
  refine lv_iconst (v := (nI 2)) hx hb dL_law_218 (by decide) ?_
  refine lv_iadd hx hb dL_law_219 ?_
  refine va_sld hx hb hX hbl hbA hS (i := ((nI 0) + (nI 2))) (by unfold vp_in; decide) dL_law_220 ?_
  rw [← hv2]
  refine xl_V (As := [.int v1, .int v2]) (rest := []) (κ := 16) (τ := xz_t s.heap.size) (M := xd_m s.heap.size) (Ac := fun q => s.heap.size ≤ q ∧ q < s.heap.size + 827) (Aw := (fun q => s.heap.size ≤ q)) ⟨hx, hb, hml, hown, hts⟩ (cp_clerks l (xz_O s.heap.size) (xd_m s.heap.size) s.heap.size (xz_16 _) (xp_h _) v1 v2) (cwV 2 hts gL_law_X6_clerks rfl rfl rfl (by decide +kernel) ⟨Nat.le_of_ble_eq_true rfl, Nat.le_of_ble_eq_true rfl⟩) hK hst hnw (fun _ q => q.1) (fun _ q => q) hS (xz_D hB) (xz_16 _) (by decide) rfl rfl rfl hl.1 rfl (Nat.le_of_ble_eq_true rfl) dL_law_221 ⟨Nat.le_of_ble_eq_true rfl, Nat.le_of_ble_eq_true rfl⟩ (fun r_1 M_3 H1 locs hq_2 hk1 hS => ?_)
  replace hR := hR.kept (fun q hq => hk1 q (by omega) (by show ¬ (s.heap.size ≤ q ∧ q < s.heap.size + 827); omega))
  clear hk1
  refine lv_aload_n hx hb dL_law_224 rfl (lv_at hl 1 rfl) ?_
  refine lv_aload_n hx hb dL_law_225 rfl (lv_at hl 3 rfl) ?_
  refine lv_iload_n hx hb dL_law_226 rfl (lv_at hl 0 rfl) ?_
  refine lv_iconst (v := (nI 1)) hx hb dL_law_227 (by decide) ?_
  refine lv_iadd hx hb dL_law_228 ?_
  refine va_sld hx hb hX hbl hbA hS (i := ((nI 0) + (nI 1))) (by unfold vp_in; decide) dL_law_229 ?_
  rw [← hv1]
  refine lv_aload_n hx hb dL_law_230 rfl (lv_at hl 3 rfl) ?_
  refine lv_iload_n hx hb dL_law_231 rfl (lv_at hl 0 rfl) ?_
  refine lv_iconst (v := (nI 2)) hx hb dL_law_232 (by decide) ?_
  refine lv_iadd hx hb dL_law_233 ?_
  refine va_sld hx hb hX hbl hbA hS (i := ((nI 0) + (nI 2))) (by unfold vp_in; decide) dL_law_234 ?_
  rw [← hv2]
  refine xl_V (As := [.int v1, .int v2]) (rest := [.int r_1]) (κ := 20) (τ := xy_t (s.heap.size + 827)) (M := xy_m (s.heap.size + 827)) (Ac := fun q => s.heap.size + 827 ≤ q) (Aw := (fun q => s.heap.size ≤ q)) ⟨hx, hb, hml, hown, hts⟩ (cm_clerks l (xy_O (s.heap.size + 827)) (xy_m (s.heap.size + 827)) (s.heap.size + 827) (xy_20 _) (xy_h _) v1 v2) (cwV 2 hts gL_law_X7_clerks rfl rfl rfl (by decide +kernel) ⟨Nat.le_of_ble_eq_true rfl, Nat.le_of_ble_eq_true rfl⟩) hK hst hnw (fun _ q => Nat.le_trans (Nat.le_add_right _ _) q) (fun _ q => q) hS (xy_D hR) (xy_20 _) (by decide) rfl rfl rfl hl.1 rfl (Nat.le_of_ble_eq_true rfl) dL_law_235 ⟨Nat.le_of_ble_eq_true rfl, Nat.le_of_ble_eq_true rfl⟩ (fun r_4 M_6 H1 locs hq_5 hk1 hS => ?_)
  clear hk1
  refine lv_icmp_eq (tgt := 634) hx hb dL_law_238 (by decide) (fun c_7 => ?_) (fun c_7 => ?_)
  · exact kk _ _ _ hS hl
  · exact absurd (hq_2.trans hq_5.symm) c_7

set_option maxHeartbeats 4000000 in
set_option maxRecDepth 100000 in
theorem lx_3 {p : Program} {e : Env} {s : State} {m : MethodId} {below : List Frame} {meth : Method} {c : Code} (l : Launch) {b : Nat} {xs : Nat → Int32} {G : va_G} {g : Nat → ClassId} {t0 : Nat → Nat} {H : Heap} {locs : List Loc} {ls : Array Slot} (I : lx_I p s m meth c b xs 3 G g t0 H locs) (hl : lv_has ls 4 [(3, .int (nI 0)), (2, .ref (s.heap.size + 827)), (1, .ref s.heap.size), (0, .ref b)]) (kk : ∀ (H : Heap) (locs : List Loc) (ls : Array Slot), va_S (fun q => s.heap.size ≤ q) s.heap H locs → lv_has ls 4 [(3, .int (nI 0)), (2, .ref (s.heap.size + 827)), (1, .ref s.heap.size), (0, .ref b)] → W p l e room_1 s m #[Value.ref b] below meth c H locs 837 12239 (lw_Z below #[Value.ref b] s) (F0 m 634 ls [])) : W p l e room_1 s m #[Value.ref b] below meth c H locs 837 12239 (lw_Z below #[Value.ref b] s) (F0 m 243 ls []) := by
  obtain ⟨⟨hx, hb, hr, hml, hown, htb, hX, hbl, hlocks, hgv⟩, hK, hst, hnw, hS, hB, hR, hz⟩ := I
  have hts : ∀ w ∈ wsL_law, w.before #[Value.ref b] s = true := fun w h => htb w (wsL_law_in w h)
  have hbA : ¬ (fun q => s.heap.size ≤ q) b := Nat.not_le.mpr hbl
  obtain ⟨v1, hv1⟩ : ∃ v, v = xs ((nI 0) + (nI 1)).toNatClampNeg := ⟨_, rfl⟩
  refine lv_aload_n hx hb dL_law_243 rfl (lv_at hl 2 rfl) ?_
  refine lv_aload_n hx hb dL_law_244 rfl (lv_at hl 3 rfl) ?_
  refine lv_iload_n hx hb dL_law_245 rfl (lv_at hl 0 rfl) ?_
  refine lv_iconst (v := (nI 1)) hx hb dL_law_246 (by decide) ?_
  refine lv_iadd hx hb dL_law_247 ?_
  refine va_sld hx hb hX hbl hbA hS (i := ((nI 0) + (nI 1))) (by unfold vp_in; decide) dL_law_248 ?_
  rw [← hv1]
  refine xl_V (As := [.int v1]) (rest := []) (κ := 16) (τ := xz_t s.heap.size) (M := xd_m s.heap.size) (Ac := fun q => s.heap.size ≤ q ∧ q < s.heap.size + 827) (Aw := (fun q => s.heap.size ≤ q)) ⟨hx, hb, hml, hown, hts⟩ (cp_bring l (xz_O s.heap.size) (xd_m s.heap.size) s.heap.size (xz_16 _) (xp_h _) v1) (cwV 1 hts gL_law_X6_bring rfl rfl rfl (by decide +kernel) ⟨Nat.le_of_ble_eq_true rfl, Nat.le_of_ble_eq_true rfl⟩) hK hst hnw (fun _ q => q.1) (fun _ q => q) hS (xz_D hB) (xz_16 _) (by decide) rfl rfl rfl hl.1 rfl (Nat.le_of_ble_eq_true rfl) dL_law_249 ⟨Nat.le_of_ble_eq_true rfl, Nat.le_of_ble_eq_true rfl⟩ (fun r_1 M_3 H1 locs hq_2 hk1 hS => ?_)
  replace hR := hR.kept (fun q hq => hk1 q (by omega) (by show ¬ (s.heap.size ≤ q ∧ q < s.heap.size + 827); omega))
  clear hk1
  refine lv_aload_n hx hb dL_law_252 rfl (lv_at hl 1 rfl) ?_
  refine lv_aload_n hx hb dL_law_253 rfl (lv_at hl 3 rfl) ?_
  refine lv_iload_n hx hb dL_law_254 rfl (lv_at hl 0 rfl) ?_
  refine lv_iconst (v := (nI 1)) hx hb dL_law_255 (by decide) ?_
  refine lv_iadd hx hb dL_law_256 ?_
  refine va_sld hx hb hX hbl hbA hS (i := ((nI 0) + (nI 1))) (by unfold vp_in; decide) dL_law_257 ?_
  rw [← hv1]
  refine xl_V (As := [.int v1]) (rest := [.int r_1]) (κ := 20) (τ := xy_t (s.heap.size + 827)) (M := xy_m (s.heap.size + 827)) (Ac := fun q => s.heap.size + 827 ≤ q) (Aw := (fun q => s.heap.size ≤ q)) ⟨hx, hb, hml, hown, hts⟩ (cm_bring l (xy_O (s.heap.size + 827)) (xy_m (s.heap.size + 827)) (s.heap.size + 827) (xy_20 _) (xy_h _) v1) (cwV 1 hts gL_law_X7_bring rfl rfl rfl (by decide +kernel) ⟨Nat.le_of_ble_eq_true rfl, Nat.le_of_ble_eq_true rfl⟩) hK hst hnw (fun _ q => Nat.le_trans (Nat.le_add_right _ _) q) (fun _ q => q) hS (xy_D hR) (xy_20 _) (by decide) rfl rfl rfl hl.1 rfl (Nat.le_of_ble_eq_true rfl) dL_law_258 ⟨Nat.le_of_ble_eq_true rfl, Nat.le_of_ble_eq_true rfl⟩ (fun r_4 M_6 H1 locs hq_5 hk1 hS => ?_)
  clear hk1
  refine lv_icmp_eq (tgt := 634) hx hb dL_law_261 (by decide) (fun c_7 => ?_) (fun c_7 => ?_)
  · exact kk _ _ _ hS hl
  · exact absurd (hq_2.trans hq_5.symm) c_7

set_option maxHeartbeats 4000000 in
set_option maxRecDepth 100000 in
theorem lx_4 {p : Program} {e : Env} {s : State} {m : MethodId} {below : List Frame} {meth : Method} {c : Code} (l : Launch) {b : Nat} {xs : Nat → Int32} {G : va_G} {g : Nat → ClassId} {t0 : Nat → Nat} {H : Heap} {locs : List Loc} {ls : Array Slot} (I : lx_I p s m meth c b xs 3 G g t0 H locs) (hl : lv_has ls 4 [(3, .int (nI 0)), (2, .ref (s.heap.size + 827)), (1, .ref s.heap.size), (0, .ref b)]) (kk : ∀ (H : Heap) (locs : List Loc) (ls : Array Slot), va_S (fun q => s.heap.size ≤ q) s.heap H locs → lv_has ls 4 [(3, .int (nI 0)), (2, .ref (s.heap.size + 827)), (1, .ref s.heap.size), (0, .ref b)] → W p l e room_1 s m #[Value.ref b] below meth c H locs 837 12239 (lw_Z below #[Value.ref b] s) (F0 m 634 ls [])) : W p l e room_1 s m #[Value.ref b] below meth c H locs 837 12239 (lw_Z below #[Value.ref b] s) (F0 m 266 ls []) := by
  obtain ⟨⟨hx, hb, hr, hml, hown, htb, hX, hbl, hlocks, hgv⟩, hK, hst, hnw, hS, hB, hR, hz⟩ := I
  have hts : ∀ w ∈ wsL_law, w.before #[Value.ref b] s = true := fun w h => htb w (wsL_law_in w h)
  have hbA : ¬ (fun q => s.heap.size ≤ q) b := Nat.not_le.mpr hbl
  refine lv_aload_n hx hb dL_law_266 rfl (lv_at hl 2 rfl) ?_
  refine xl_V (As := []) (rest := []) (κ := 16) (τ := xz_t s.heap.size) (M := xd_m s.heap.size) (Ac := fun q => s.heap.size ≤ q ∧ q < s.heap.size + 827) (Aw := (fun q => s.heap.size ≤ q)) ⟨hx, hb, hml, hown, hts⟩ (cp_read l (xz_O s.heap.size) (xd_m s.heap.size) s.heap.size (xz_16 _) (xp_h _)) (cwV 0 hts gL_law_X6_read rfl rfl rfl (by decide +kernel) ⟨Nat.le_of_ble_eq_true rfl, Nat.le_of_ble_eq_true rfl⟩) hK hst hnw (fun _ q => q.1) (fun _ q => q) hS (xz_D hB) (xz_16 _) (by decide) rfl rfl rfl hl.1 rfl (Nat.le_of_ble_eq_true rfl) dL_law_267 ⟨Nat.le_of_ble_eq_true rfl, Nat.le_of_ble_eq_true rfl⟩ (fun r_1 M_3 H1 locs hq_2 hk1 hS => ?_)
  replace hR := hR.kept (fun q hq => hk1 q (by omega) (by show ¬ (s.heap.size ≤ q ∧ q < s.heap.size + 827); omega))
  clear hk1
  refine lv_aload_n hx hb dL_law_270 rfl (lv_at hl 1 rfl) ?_
  refine xl_V (As := []) (rest := [.int r_1]) (κ := 20) (τ := xy_t (s.heap.size + 827)) (M := xy_m (s.heap.size + 827)) (Ac := fun q => s.heap.size + 827 ≤ q) (Aw := (fun q => s.heap.size ≤ q)) ⟨hx, hb, hml, hown, hts⟩ (cm_read l (xy_O (s.heap.size + 827)) (xy_m (s.heap.size + 827)) (s.heap.size + 827) (xy_20 _) (xy_h _)) (cwV 0 hts gL_law_X7_read rfl rfl rfl (by decide +kernel) ⟨Nat.le_of_ble_eq_true rfl, Nat.le_of_ble_eq_true rfl⟩) hK hst hnw (fun _ q => Nat.le_trans (Nat.le_add_right _ _) q) (fun _ q => q) hS (xy_D hR) (xy_20 _) (by decide) rfl rfl rfl hl.1 rfl (Nat.le_of_ble_eq_true rfl) dL_law_271 ⟨Nat.le_of_ble_eq_true rfl, Nat.le_of_ble_eq_true rfl⟩ (fun r_4 M_6 H1 locs hq_5 hk1 hS => ?_)
  clear hk1
  refine lv_icmp_eq (tgt := 634) hx hb dL_law_274 (by decide) (fun c_7 => ?_) (fun c_7 => ?_)
  · exact kk _ _ _ hS hl
  · exact absurd (hq_2.trans hq_5.symm) c_7

set_option maxHeartbeats 4000000 in
set_option maxRecDepth 100000 in
theorem lx_5 {p : Program} {e : Env} {s : State} {m : MethodId} {below : List Frame} {meth : Method} {c : Code} (l : Launch) {b : Nat} {xs : Nat → Int32} {G : va_G} {g : Nat → ClassId} {t0 : Nat → Nat} {H : Heap} {locs : List Loc} {ls : Array Slot} (I : lx_I p s m meth c b xs 3 G g t0 H locs) (hl : lv_has ls 4 [(3, .int (nI 0)), (2, .ref (s.heap.size + 827)), (1, .ref s.heap.size), (0, .ref b)]) (kk : ∀ (H : Heap) (locs : List Loc) (ls : Array Slot), va_S (fun q => s.heap.size ≤ q) s.heap H locs → lv_has ls 4 [(3, .int (nI 0)), (2, .ref (s.heap.size + 827)), (1, .ref s.heap.size), (0, .ref b)] → W p l e room_1 s m #[Value.ref b] below meth c H locs 837 12239 (lw_Z below #[Value.ref b] s) (F0 m 634 ls [])) : W p l e room_1 s m #[Value.ref b] below meth c H locs 837 12239 (lw_Z below #[Value.ref b] s) (F0 m 279 ls []) := by
  obtain ⟨⟨hx, hb, hr, hml, hown, htb, hX, hbl, hlocks, hgv⟩, hK, hst, hnw, hS, hB, hR, hz⟩ := I
  have hts : ∀ w ∈ wsL_law, w.before #[Value.ref b] s = true := fun w h => htb w (wsL_law_in w h)
  have hbA : ¬ (fun q => s.heap.size ≤ q) b := Nat.not_le.mpr hbl
  obtain ⟨v1, hv1⟩ : ∃ v, v = xs ((nI 0) + (nI 1)).toNatClampNeg := ⟨_, rfl⟩
  refine lv_aload_n hx hb dL_law_279 rfl (lv_at hl 2 rfl) ?_
  refine lv_aload_n hx hb dL_law_280 rfl (lv_at hl 3 rfl) ?_
  refine lv_iload_n hx hb dL_law_281 rfl (lv_at hl 0 rfl) ?_
  refine lv_iconst (v := (nI 1)) hx hb dL_law_282 (by decide) ?_
  refine lv_iadd hx hb dL_law_283 ?_
  refine va_sld hx hb hX hbl hbA hS (i := ((nI 0) + (nI 1))) (by unfold vp_in; decide) dL_law_284 ?_
  rw [← hv1]
  refine xl_V (As := [.int v1]) (rest := []) (κ := 16) (τ := xz_t s.heap.size) (M := xd_m s.heap.size) (Ac := fun q => s.heap.size ≤ q ∧ q < s.heap.size + 827) (Aw := (fun q => s.heap.size ≤ q)) ⟨hx, hb, hml, hown, hts⟩ (cp_leave l (xz_O s.heap.size) (xd_m s.heap.size) s.heap.size (xz_16 _) (xp_h _) v1) (cwV 1 hts gL_law_X6_leave rfl rfl rfl (by decide +kernel) ⟨Nat.le_of_ble_eq_true rfl, Nat.le_of_ble_eq_true rfl⟩) hK hst hnw (fun _ q => q.1) (fun _ q => q) hS (xz_D hB) (xz_16 _) (by decide) rfl rfl rfl hl.1 rfl (Nat.le_of_ble_eq_true rfl) dL_law_285 ⟨Nat.le_of_ble_eq_true rfl, Nat.le_of_ble_eq_true rfl⟩ (fun r_1 M_3 H1 locs hq_2 hk1 hS => ?_)
  replace hR := hR.kept (fun q hq => hk1 q (by omega) (by show ¬ (s.heap.size ≤ q ∧ q < s.heap.size + 827); omega))
  clear hk1
  refine lv_aload_n hx hb dL_law_288 rfl (lv_at hl 1 rfl) ?_
  refine lv_aload_n hx hb dL_law_289 rfl (lv_at hl 3 rfl) ?_
  refine lv_iload_n hx hb dL_law_290 rfl (lv_at hl 0 rfl) ?_
  refine lv_iconst (v := (nI 1)) hx hb dL_law_291 (by decide) ?_
  refine lv_iadd hx hb dL_law_292 ?_
  refine va_sld hx hb hX hbl hbA hS (i := ((nI 0) + (nI 1))) (by unfold vp_in; decide) dL_law_293 ?_
  rw [← hv1]
  refine xl_V (As := [.int v1]) (rest := [.int r_1]) (κ := 20) (τ := xy_t (s.heap.size + 827)) (M := xy_m (s.heap.size + 827)) (Ac := fun q => s.heap.size + 827 ≤ q) (Aw := (fun q => s.heap.size ≤ q)) ⟨hx, hb, hml, hown, hts⟩ (cm_leave l (xy_O (s.heap.size + 827)) (xy_m (s.heap.size + 827)) (s.heap.size + 827) (xy_20 _) (xy_h _) v1) (cwV 1 hts gL_law_X7_leave rfl rfl rfl (by decide +kernel) ⟨Nat.le_of_ble_eq_true rfl, Nat.le_of_ble_eq_true rfl⟩) hK hst hnw (fun _ q => Nat.le_trans (Nat.le_add_right _ _) q) (fun _ q => q) hS (xy_D hR) (xy_20 _) (by decide) rfl rfl rfl hl.1 rfl (Nat.le_of_ble_eq_true rfl) dL_law_294 ⟨Nat.le_of_ble_eq_true rfl, Nat.le_of_ble_eq_true rfl⟩ (fun r_4 M_6 H1 locs hq_5 hk1 hS => ?_)
  clear hk1
  refine lv_icmp_eq (tgt := 634) hx hb dL_law_297 (by decide) (fun c_7 => ?_) (fun c_7 => ?_)
  · exact kk _ _ _ hS hl
  · exact absurd (hq_2.trans hq_5.symm) c_7

set_option maxHeartbeats 4000000 in
set_option maxRecDepth 100000 in
theorem lx_6 {p : Program} {e : Env} {s : State} {m : MethodId} {below : List Frame} {meth : Method} {c : Code} (l : Launch) {b : Nat} {xs : Nat → Int32} {G : va_G} {g : Nat → ClassId} {t0 : Nat → Nat} {H : Heap} {locs : List Loc} {ls : Array Slot} (I : lx_I p s m meth c b xs 3 G g t0 H locs) (hl : lv_has ls 4 [(3, .int (nI 0)), (2, .ref (s.heap.size + 827)), (1, .ref s.heap.size), (0, .ref b)]) (kk : ∀ (H : Heap) (locs : List Loc) (ls : Array Slot), va_S (fun q => s.heap.size ≤ q) s.heap H locs → lv_has ls 4 [(3, .int (nI 0)), (2, .ref (s.heap.size + 827)), (1, .ref s.heap.size), (0, .ref b)] → W p l e room_1 s m #[Value.ref b] below meth c H locs 837 12239 (lw_Z below #[Value.ref b] s) (F0 m 634 ls [])) : W p l e room_1 s m #[Value.ref b] below meth c H locs 837 12239 (lw_Z below #[Value.ref b] s) (F0 m 302 ls []) := by
  obtain ⟨⟨hx, hb, hr, hml, hown, htb, hX, hbl, hlocks, hgv⟩, hK, hst, hnw, hS, hB, hR, hz⟩ := I
  have hts : ∀ w ∈ wsL_law, w.before #[Value.ref b] s = true := fun w h => htb w (wsL_law_in w h)
  have hbA : ¬ (fun q => s.heap.size ≤ q) b := Nat.not_le.mpr hbl
  obtain ⟨v1, hv1⟩ : ∃ v, v = xs ((nI 0) + (nI 1)).toNatClampNeg := ⟨_, rfl⟩
  refine lv_aload_n hx hb dL_law_302 rfl (lv_at hl 2 rfl) ?_
  refine lv_aload_n hx hb dL_law_303 rfl (lv_at hl 3 rfl) ?_
  refine lv_iload_n hx hb dL_law_304 rfl (lv_at hl 0 rfl) ?_
  refine lv_iconst (v := (nI 1)) hx hb dL_law_305 (by decide) ?_
  refine lv_iadd hx hb dL_law_306 ?_
  refine va_sld hx hb hX hbl hbA hS (i := ((nI 0) + (nI 1))) (by unfold vp_in; decide) dL_law_307 ?_
  rw [← hv1]
  refine xl_V (As := [.int v1]) (rest := []) (κ := 16) (τ := xz_t s.heap.size) (M := xd_m s.heap.size) (Ac := fun q => s.heap.size ≤ q ∧ q < s.heap.size + 827) (Aw := (fun q => s.heap.size ≤ q)) ⟨hx, hb, hml, hown, hts⟩ (cp_pass l (xz_O s.heap.size) (xd_m s.heap.size) s.heap.size (xz_16 _) (xp_h _) v1) (cwV 1 hts gL_law_X6_pass rfl rfl rfl (by decide +kernel) ⟨Nat.le_of_ble_eq_true rfl, Nat.le_of_ble_eq_true rfl⟩) hK hst hnw (fun _ q => q.1) (fun _ q => q) hS (xz_D hB) (xz_16 _) (by decide) rfl rfl rfl hl.1 rfl (Nat.le_of_ble_eq_true rfl) dL_law_308 ⟨Nat.le_of_ble_eq_true rfl, Nat.le_of_ble_eq_true rfl⟩ (fun r_1 M_3 H1 locs hq_2 hk1 hS => ?_)
  replace hR := hR.kept (fun q hq => hk1 q (by omega) (by show ¬ (s.heap.size ≤ q ∧ q < s.heap.size + 827); omega))
  clear hk1
  refine lv_aload_n hx hb dL_law_311 rfl (lv_at hl 1 rfl) ?_
  refine lv_aload_n hx hb dL_law_312 rfl (lv_at hl 3 rfl) ?_
  refine lv_iload_n hx hb dL_law_313 rfl (lv_at hl 0 rfl) ?_
  refine lv_iconst (v := (nI 1)) hx hb dL_law_314 (by decide) ?_
  refine lv_iadd hx hb dL_law_315 ?_
  refine va_sld hx hb hX hbl hbA hS (i := ((nI 0) + (nI 1))) (by unfold vp_in; decide) dL_law_316 ?_
  rw [← hv1]
  refine xl_V (As := [.int v1]) (rest := [.int r_1]) (κ := 20) (τ := xy_t (s.heap.size + 827)) (M := xy_m (s.heap.size + 827)) (Ac := fun q => s.heap.size + 827 ≤ q) (Aw := (fun q => s.heap.size ≤ q)) ⟨hx, hb, hml, hown, hts⟩ (cm_pass l (xy_O (s.heap.size + 827)) (xy_m (s.heap.size + 827)) (s.heap.size + 827) (xy_20 _) (xy_h _) v1) (cwV 1 hts gL_law_X7_pass rfl rfl rfl (by decide +kernel) ⟨Nat.le_of_ble_eq_true rfl, Nat.le_of_ble_eq_true rfl⟩) hK hst hnw (fun _ q => Nat.le_trans (Nat.le_add_right _ _) q) (fun _ q => q) hS (xy_D hR) (xy_20 _) (by decide) rfl rfl rfl hl.1 rfl (Nat.le_of_ble_eq_true rfl) dL_law_317 ⟨Nat.le_of_ble_eq_true rfl, Nat.le_of_ble_eq_true rfl⟩ (fun r_4 M_6 H1 locs hq_5 hk1 hS => ?_)
  clear hk1
  refine lv_icmp_eq (tgt := 634) hx hb dL_law_320 (by decide) (fun c_7 => ?_) (fun c_7 => ?_)
  · exact kk _ _ _ hS hl
  · exact absurd (hq_2.trans hq_5.symm) c_7

set_option maxHeartbeats 4000000 in
set_option maxRecDepth 100000 in
theorem lx_7 {p : Program} {e : Env} {s : State} {m : MethodId} {below : List Frame} {meth : Method} {c : Code} (l : Launch) {b : Nat} {xs : Nat → Int32} {G : va_G} {g : Nat → ClassId} {t0 : Nat → Nat} {H : Heap} {locs : List Loc} {ls : Array Slot} (I : lx_I p s m meth c b xs 3 G g t0 H locs) (hl : lv_has ls 4 [(3, .int (nI 0)), (2, .ref (s.heap.size + 827)), (1, .ref s.heap.size), (0, .ref b)]) (kk : ∀ (H : Heap) (locs : List Loc) (ls : Array Slot), va_S (fun q => s.heap.size ≤ q) s.heap H locs → lv_has ls 4 [(3, .int (nI 0)), (2, .ref (s.heap.size + 827)), (1, .ref s.heap.size), (0, .ref b)] → W p l e room_1 s m #[Value.ref b] below meth c H locs 837 12239 (lw_Z below #[Value.ref b] s) (F0 m 634 ls [])) : W p l e room_1 s m #[Value.ref b] below meth c H locs 837 12239 (lw_Z below #[Value.ref b] s) (F0 m 325 ls []) := by
  obtain ⟨⟨hx, hb, hr, hml, hown, htb, hX, hbl, hlocks, hgv⟩, hK, hst, hnw, hS, hB, hR, hz⟩ := I
  have hts : ∀ w ∈ wsL_law, w.before #[Value.ref b] s = true := fun w h => htb w (wsL_law_in w h)
  have hbA : ¬ (fun q => s.heap.size ≤ q) b := Nat.not_le.mpr hbl
  obtain ⟨v1, hv1⟩ : ∃ v, v = xs ((nI 0) + (nI 1)).toNatClampNeg := ⟨_, rfl⟩
  obtain ⟨v2, hv2⟩ : ∃ v, v = xs ((nI 0) + (nI 2)).toNatClampNeg := ⟨_, rfl⟩
  refine lv_aload_n hx hb dL_law_325 rfl (lv_at hl 2 rfl) ?_
  refine lv_aload_n hx hb dL_law_326 rfl (lv_at hl 3 rfl) ?_
  refine lv_iload_n hx hb dL_law_327 rfl (lv_at hl 0 rfl) ?_
  refine lv_iconst (v := (nI 1)) hx hb dL_law_328 (by decide) ?_
  refine lv_iadd hx hb dL_law_329 ?_
  refine va_sld hx hb hX hbl hbA hS (i := ((nI 0) + (nI 1))) (by unfold vp_in; decide) dL_law_330 ?_
  rw [← hv1]
  refine lv_aload_n hx hb dL_law_331 rfl (lv_at hl 3 rfl) ?_
  refine lv_iload_n hx hb dL_law_332 rfl (lv_at hl 0 rfl) ?_
  refine lv_iconst (v := (nI 2)) hx hb dL_law_333 (by decide) ?_
  refine lv_iadd hx hb dL_law_334 ?_
  refine va_sld hx hb hX hbl hbA hS (i := ((nI 0) + (nI 2))) (by unfold vp_in; decide) dL_law_335 ?_
  rw [← hv2]
  refine xl_V (As := [.int v1, .int v2]) (rest := []) (κ := 16) (τ := xz_t s.heap.size) (M := xd_m s.heap.size) (Ac := fun q => s.heap.size ≤ q ∧ q < s.heap.size + 827) (Aw := (fun q => s.heap.size ≤ q)) ⟨hx, hb, hml, hown, hts⟩ (cp_person l (xz_O s.heap.size) (xd_m s.heap.size) s.heap.size (xz_16 _) (xp_h _) v1 v2) (cwV 2 hts gL_law_X6_person rfl rfl rfl (by decide +kernel) ⟨Nat.le_of_ble_eq_true rfl, Nat.le_of_ble_eq_true rfl⟩) hK hst hnw (fun _ q => q.1) (fun _ q => q) hS (xz_D hB) (xz_16 _) (by decide) rfl rfl rfl hl.1 rfl (Nat.le_of_ble_eq_true rfl) dL_law_336 ⟨Nat.le_of_ble_eq_true rfl, Nat.le_of_ble_eq_true rfl⟩ (fun r_1 M_3 H1 locs hq_2 hk1 hS => ?_)
  replace hR := hR.kept (fun q hq => hk1 q (by omega) (by show ¬ (s.heap.size ≤ q ∧ q < s.heap.size + 827); omega))
  clear hk1
  refine lv_aload_n hx hb dL_law_339 rfl (lv_at hl 1 rfl) ?_
  refine lv_aload_n hx hb dL_law_340 rfl (lv_at hl 3 rfl) ?_
  refine lv_iload_n hx hb dL_law_341 rfl (lv_at hl 0 rfl) ?_
  refine lv_iconst (v := (nI 1)) hx hb dL_law_342 (by decide) ?_
  refine lv_iadd hx hb dL_law_343 ?_
  refine va_sld hx hb hX hbl hbA hS (i := ((nI 0) + (nI 1))) (by unfold vp_in; decide) dL_law_344 ?_
  rw [← hv1]
  refine lv_aload_n hx hb dL_law_345 rfl (lv_at hl 3 rfl) ?_
  refine lv_iload_n hx hb dL_law_346 rfl (lv_at hl 0 rfl) ?_
  refine lv_iconst (v := (nI 2)) hx hb dL_law_347 (by decide) ?_
  refine lv_iadd hx hb dL_law_348 ?_
  refine va_sld hx hb hX hbl hbA hS (i := ((nI 0) + (nI 2))) (by unfold vp_in; decide) dL_law_349 ?_
  rw [← hv2]
  refine xl_V (As := [.int v1, .int v2]) (rest := [.int r_1]) (κ := 20) (τ := xy_t (s.heap.size + 827)) (M := xy_m (s.heap.size + 827)) (Ac := fun q => s.heap.size + 827 ≤ q) (Aw := (fun q => s.heap.size ≤ q)) ⟨hx, hb, hml, hown, hts⟩ (cm_person l (xy_O (s.heap.size + 827)) (xy_m (s.heap.size + 827)) (s.heap.size + 827) (xy_20 _) (xy_h _) v1 v2) (cwV 2 hts gL_law_X7_person rfl rfl rfl (by decide +kernel) ⟨Nat.le_of_ble_eq_true rfl, Nat.le_of_ble_eq_true rfl⟩) hK hst hnw (fun _ q => Nat.le_trans (Nat.le_add_right _ _) q) (fun _ q => q) hS (xy_D hR) (xy_20 _) (by decide) rfl rfl rfl hl.1 rfl (Nat.le_of_ble_eq_true rfl) dL_law_350 ⟨Nat.le_of_ble_eq_true rfl, Nat.le_of_ble_eq_true rfl⟩ (fun r_4 M_6 H1 locs hq_5 hk1 hS => ?_)
  clear hk1
  refine lv_icmp_eq (tgt := 634) hx hb dL_law_353 (by decide) (fun c_7 => ?_) (fun c_7 => ?_)
  · exact kk _ _ _ hS hl
  · exact absurd (hq_2.trans hq_5.symm) c_7

set_option maxHeartbeats 4000000 in
set_option maxRecDepth 100000 in
theorem lx_8 {p : Program} {e : Env} {s : State} {m : MethodId} {below : List Frame} {meth : Method} {c : Code} (l : Launch) {b : Nat} {xs : Nat → Int32} {G : va_G} {g : Nat → ClassId} {t0 : Nat → Nat} {H : Heap} {locs : List Loc} {ls : Array Slot} (I : lx_I p s m meth c b xs 3 G g t0 H locs) (hl : lv_has ls 4 [(3, .int (nI 0)), (2, .ref (s.heap.size + 827)), (1, .ref s.heap.size), (0, .ref b)]) (kk : ∀ (H : Heap) (locs : List Loc) (ls : Array Slot), va_S (fun q => s.heap.size ≤ q) s.heap H locs → lv_has ls 4 [(3, .int (nI 0)), (2, .ref (s.heap.size + 827)), (1, .ref s.heap.size), (0, .ref b)] → W p l e room_1 s m #[Value.ref b] below meth c H locs 837 12239 (lw_Z below #[Value.ref b] s) (F0 m 634 ls [])) : W p l e room_1 s m #[Value.ref b] below meth c H locs 837 12239 (lw_Z below #[Value.ref b] s) (F0 m 358 ls []) := by
  obtain ⟨⟨hx, hb, hr, hml, hown, htb, hX, hbl, hlocks, hgv⟩, hK, hst, hnw, hS, hB, hR, hz⟩ := I
  have hts : ∀ w ∈ wsL_law, w.before #[Value.ref b] s = true := fun w h => htb w (wsL_law_in w h)
  have hbA : ¬ (fun q => s.heap.size ≤ q) b := Nat.not_le.mpr hbl
  obtain ⟨v1, hv1⟩ : ∃ v, v = xs ((nI 0) + (nI 1)).toNatClampNeg := ⟨_, rfl⟩
  obtain ⟨v2, hv2⟩ : ∃ v, v = xs ((nI 0) + (nI 2)).toNatClampNeg := ⟨_, rfl⟩
  refine lv_aload_n hx hb dL_law_358 rfl (lv_at hl 2 rfl) ?_
  refine lv_aload_n hx hb dL_law_359 rfl (lv_at hl 3 rfl) ?_
  refine lv_iload_n hx hb dL_law_360 rfl (lv_at hl 0 rfl) ?_
  refine lv_iconst (v := (nI 1)) hx hb dL_law_361 (by decide) ?_
  refine lv_iadd hx hb dL_law_362 ?_
  refine va_sld hx hb hX hbl hbA hS (i := ((nI 0) + (nI 1))) (by unfold vp_in; decide) dL_law_363 ?_
  rw [← hv1]
  refine lv_aload_n hx hb dL_law_364 rfl (lv_at hl 3 rfl) ?_
  refine lv_iload_n hx hb dL_law_365 rfl (lv_at hl 0 rfl) ?_
  refine lv_iconst (v := (nI 2)) hx hb dL_law_366 (by decide) ?_
  refine lv_iadd hx hb dL_law_367 ?_
  refine va_sld hx hb hX hbl hbA hS (i := ((nI 0) + (nI 2))) (by unfold vp_in; decide) dL_law_368 ?_
  rw [← hv2]
  refine xl_V (As := [.int v1, .int v2]) (rest := []) (κ := 16) (τ := xz_t s.heap.size) (M := xd_m s.heap.size) (Ac := fun q => s.heap.size ≤ q ∧ q < s.heap.size + 827) (Aw := (fun q => s.heap.size ≤ q)) ⟨hx, hb, hml, hown, hts⟩ (cp_windowOf l (xz_O s.heap.size) (xd_m s.heap.size) s.heap.size (xz_16 _) (xp_h _) v1 v2) (cwV 2 hts gL_law_X6_windowOf rfl rfl rfl (by decide +kernel) ⟨Nat.le_of_ble_eq_true rfl, Nat.le_of_ble_eq_true rfl⟩) hK hst hnw (fun _ q => q.1) (fun _ q => q) hS (xz_D hB) (xz_16 _) (by decide) rfl rfl rfl hl.1 rfl (Nat.le_of_ble_eq_true rfl) dL_law_369 ⟨Nat.le_of_ble_eq_true rfl, Nat.le_of_ble_eq_true rfl⟩ (fun r_1 M_3 H1 locs hq_2 hk1 hS => ?_)
  replace hR := hR.kept (fun q hq => hk1 q (by omega) (by show ¬ (s.heap.size ≤ q ∧ q < s.heap.size + 827); omega))
  clear hk1
  refine lv_aload_n hx hb dL_law_372 rfl (lv_at hl 1 rfl) ?_
  refine lv_aload_n hx hb dL_law_373 rfl (lv_at hl 3 rfl) ?_
  refine lv_iload_n hx hb dL_law_374 rfl (lv_at hl 0 rfl) ?_
  refine lv_iconst (v := (nI 1)) hx hb dL_law_375 (by decide) ?_
  refine lv_iadd hx hb dL_law_376 ?_
  refine va_sld hx hb hX hbl hbA hS (i := ((nI 0) + (nI 1))) (by unfold vp_in; decide) dL_law_377 ?_
  rw [← hv1]
  refine lv_aload_n hx hb dL_law_378 rfl (lv_at hl 3 rfl) ?_
  refine lv_iload_n hx hb dL_law_379 rfl (lv_at hl 0 rfl) ?_
  refine lv_iconst (v := (nI 2)) hx hb dL_law_380 (by decide) ?_
  refine lv_iadd hx hb dL_law_381 ?_
  refine va_sld hx hb hX hbl hbA hS (i := ((nI 0) + (nI 2))) (by unfold vp_in; decide) dL_law_382 ?_
  rw [← hv2]
  refine xl_V (As := [.int v1, .int v2]) (rest := [.int r_1]) (κ := 20) (τ := xy_t (s.heap.size + 827)) (M := xy_m (s.heap.size + 827)) (Ac := fun q => s.heap.size + 827 ≤ q) (Aw := (fun q => s.heap.size ≤ q)) ⟨hx, hb, hml, hown, hts⟩ (cm_windowOf l (xy_O (s.heap.size + 827)) (xy_m (s.heap.size + 827)) (s.heap.size + 827) (xy_20 _) (xy_h _) v1 v2) (cwV 2 hts gL_law_X7_windowOf rfl rfl rfl (by decide +kernel) ⟨Nat.le_of_ble_eq_true rfl, Nat.le_of_ble_eq_true rfl⟩) hK hst hnw (fun _ q => Nat.le_trans (Nat.le_add_right _ _) q) (fun _ q => q) hS (xy_D hR) (xy_20 _) (by decide) rfl rfl rfl hl.1 rfl (Nat.le_of_ble_eq_true rfl) dL_law_383 ⟨Nat.le_of_ble_eq_true rfl, Nat.le_of_ble_eq_true rfl⟩ (fun r_4 M_6 H1 locs hq_5 hk1 hS => ?_)
  clear hk1
  refine lv_icmp_eq (tgt := 634) hx hb dL_law_386 (by decide) (fun c_7 => ?_) (fun c_7 => ?_)
  · exact kk _ _ _ hS hl
  · exact absurd (hq_2.trans hq_5.symm) c_7

set_option maxHeartbeats 4000000 in
set_option maxRecDepth 100000 in
theorem lx_9 {p : Program} {e : Env} {s : State} {m : MethodId} {below : List Frame} {meth : Method} {c : Code} (l : Launch) {b : Nat} {xs : Nat → Int32} {G : va_G} {g : Nat → ClassId} {t0 : Nat → Nat} {H : Heap} {locs : List Loc} {ls : Array Slot} (I : lx_I p s m meth c b xs 3 G g t0 H locs) (hl : lv_has ls 4 [(3, .int (nI 0)), (2, .ref (s.heap.size + 827)), (1, .ref s.heap.size), (0, .ref b)]) (kk : ∀ (H : Heap) (locs : List Loc) (ls : Array Slot), va_S (fun q => s.heap.size ≤ q) s.heap H locs → lv_has ls 4 [(3, .int (nI 0)), (2, .ref (s.heap.size + 827)), (1, .ref s.heap.size), (0, .ref b)] → W p l e room_1 s m #[Value.ref b] below meth c H locs 837 12239 (lw_Z below #[Value.ref b] s) (F0 m 634 ls [])) : W p l e room_1 s m #[Value.ref b] below meth c H locs 837 12239 (lw_Z below #[Value.ref b] s) (F0 m 391 ls []) := by
  obtain ⟨⟨hx, hb, hr, hml, hown, htb, hX, hbl, hlocks, hgv⟩, hK, hst, hnw, hS, hB, hR, hz⟩ := I
  have hts : ∀ w ∈ wsL_law, w.before #[Value.ref b] s = true := fun w h => htb w (wsL_law_in w h)
  have hbA : ¬ (fun q => s.heap.size ≤ q) b := Nat.not_le.mpr hbl
  obtain ⟨v1, hv1⟩ : ∃ v, v = xs ((nI 0) + (nI 1)).toNatClampNeg := ⟨_, rfl⟩
  refine lv_aload_n hx hb dL_law_391 rfl (lv_at hl 2 rfl) ?_
  refine lv_aload_n hx hb dL_law_392 rfl (lv_at hl 3 rfl) ?_
  refine lv_iload_n hx hb dL_law_393 rfl (lv_at hl 0 rfl) ?_
  refine lv_iconst (v := (nI 1)) hx hb dL_law_394 (by decide) ?_
  refine lv_iadd hx hb dL_law_395 ?_
  refine va_sld hx hb hX hbl hbA hS (i := ((nI 0) + (nI 1))) (by unfold vp_in; decide) dL_law_396 ?_
  rw [← hv1]
  refine xl_V (As := [.int v1]) (rest := []) (κ := 16) (τ := xz_t s.heap.size) (M := xd_m s.heap.size) (Ac := fun q => s.heap.size ≤ q ∧ q < s.heap.size + 827) (Aw := (fun q => s.heap.size ≤ q)) ⟨hx, hb, hml, hown, hts⟩ (cp_count l (xz_O s.heap.size) (xd_m s.heap.size) s.heap.size (xz_16 _) (xp_h _) v1) (cwV 1 hts gL_law_X6_count rfl rfl rfl (by decide +kernel) ⟨Nat.le_of_ble_eq_true rfl, Nat.le_of_ble_eq_true rfl⟩) hK hst hnw (fun _ q => q.1) (fun _ q => q) hS (xz_D hB) (xz_16 _) (by decide) rfl rfl rfl hl.1 rfl (Nat.le_of_ble_eq_true rfl) dL_law_397 ⟨Nat.le_of_ble_eq_true rfl, Nat.le_of_ble_eq_true rfl⟩ (fun r_1 M_3 H1 locs hq_2 hk1 hS => ?_)
  replace hR := hR.kept (fun q hq => hk1 q (by omega) (by show ¬ (s.heap.size ≤ q ∧ q < s.heap.size + 827); omega))
  clear hk1
  refine lv_aload_n hx hb dL_law_400 rfl (lv_at hl 1 rfl) ?_
  refine lv_aload_n hx hb dL_law_401 rfl (lv_at hl 3 rfl) ?_
  refine lv_iload_n hx hb dL_law_402 rfl (lv_at hl 0 rfl) ?_
  refine lv_iconst (v := (nI 1)) hx hb dL_law_403 (by decide) ?_
  refine lv_iadd hx hb dL_law_404 ?_
  refine va_sld hx hb hX hbl hbA hS (i := ((nI 0) + (nI 1))) (by unfold vp_in; decide) dL_law_405 ?_
  rw [← hv1]
  refine xl_V (As := [.int v1]) (rest := [.int r_1]) (κ := 20) (τ := xy_t (s.heap.size + 827)) (M := xy_m (s.heap.size + 827)) (Ac := fun q => s.heap.size + 827 ≤ q) (Aw := (fun q => s.heap.size ≤ q)) ⟨hx, hb, hml, hown, hts⟩ (cm_count l (xy_O (s.heap.size + 827)) (xy_m (s.heap.size + 827)) (s.heap.size + 827) (xy_20 _) (xy_h _) v1) (cwV 1 hts gL_law_X7_count rfl rfl rfl (by decide +kernel) ⟨Nat.le_of_ble_eq_true rfl, Nat.le_of_ble_eq_true rfl⟩) hK hst hnw (fun _ q => Nat.le_trans (Nat.le_add_right _ _) q) (fun _ q => q) hS (xy_D hR) (xy_20 _) (by decide) rfl rfl rfl hl.1 rfl (Nat.le_of_ble_eq_true rfl) dL_law_406 ⟨Nat.le_of_ble_eq_true rfl, Nat.le_of_ble_eq_true rfl⟩ (fun r_4 M_6 H1 locs hq_5 hk1 hS => ?_)
  clear hk1
  refine lv_icmp_eq (tgt := 634) hx hb dL_law_409 (by decide) (fun c_7 => ?_) (fun c_7 => ?_)
  · exact kk _ _ _ hS hl
  · exact absurd (hq_2.trans hq_5.symm) c_7

set_option maxHeartbeats 4000000 in
set_option maxRecDepth 100000 in
theorem lx_10 {p : Program} {e : Env} {s : State} {m : MethodId} {below : List Frame} {meth : Method} {c : Code} (l : Launch) {b : Nat} {xs : Nat → Int32} {G : va_G} {g : Nat → ClassId} {t0 : Nat → Nat} {H : Heap} {locs : List Loc} {ls : Array Slot} (I : lx_I p s m meth c b xs 3 G g t0 H locs) (hl : lv_has ls 4 [(3, .int (nI 0)), (2, .ref (s.heap.size + 827)), (1, .ref s.heap.size), (0, .ref b)]) (kk : ∀ (H : Heap) (locs : List Loc) (ls : Array Slot), va_S (fun q => s.heap.size ≤ q) s.heap H locs → lv_has ls 4 [(3, .int (nI 0)), (2, .ref (s.heap.size + 827)), (1, .ref s.heap.size), (0, .ref b)] → W p l e room_1 s m #[Value.ref b] below meth c H locs 837 12239 (lw_Z below #[Value.ref b] s) (F0 m 634 ls [])) : W p l e room_1 s m #[Value.ref b] below meth c H locs 837 12239 (lw_Z below #[Value.ref b] s) (F0 m 414 ls []) := by
  obtain ⟨⟨hx, hb, hr, hml, hown, htb, hX, hbl, hlocks, hgv⟩, hK, hst, hnw, hS, hB, hR, hz⟩ := I
  have hts : ∀ w ∈ wsL_law, w.before #[Value.ref b] s = true := fun w h => htb w (wsL_law_in w h)
  have hbA : ¬ (fun q => s.heap.size ≤ q) b := Nat.not_le.mpr hbl
  obtain ⟨v1, hv1⟩ : ∃ v, v = xs ((nI 0) + (nI 1)).toNatClampNeg := ⟨_, rfl⟩
  refine lv_aload_n hx hb dL_law_414 rfl (lv_at hl 2 rfl) ?_
  refine lv_aload_n hx hb dL_law_415 rfl (lv_at hl 3 rfl) ?_
  refine lv_iload_n hx hb dL_law_416 rfl (lv_at hl 0 rfl) ?_
  refine lv_iconst (v := (nI 1)) hx hb dL_law_417 (by decide) ?_
  refine lv_iadd hx hb dL_law_418 ?_
  refine va_sld hx hb hX hbl hbA hS (i := ((nI 0) + (nI 1))) (by unfold vp_in; decide) dL_law_419 ?_
  rw [← hv1]
  refine xl_V (As := [.int v1]) (rest := []) (κ := 16) (τ := xz_t s.heap.size) (M := xd_m s.heap.size) (Ac := fun q => s.heap.size ≤ q ∧ q < s.heap.size + 827) (Aw := (fun q => s.heap.size ≤ q)) ⟨hx, hb, hml, hown, hts⟩ (cp_untilDone l (xz_O s.heap.size) (xd_m s.heap.size) s.heap.size (xz_16 _) (xp_h _) v1) (cwV 1 hts gL_law_X6_untilDone rfl rfl rfl (by decide +kernel) ⟨Nat.le_of_ble_eq_true rfl, Nat.le_of_ble_eq_true rfl⟩) hK hst hnw (fun _ q => q.1) (fun _ q => q) hS (xz_D hB) (xz_16 _) (by decide) rfl rfl rfl hl.1 rfl (Nat.le_of_ble_eq_true rfl) dL_law_420 ⟨Nat.le_of_ble_eq_true rfl, Nat.le_of_ble_eq_true rfl⟩ (fun r_1 M_3 H1 locs hq_2 hk1 hS => ?_)
  replace hR := hR.kept (fun q hq => hk1 q (by omega) (by show ¬ (s.heap.size ≤ q ∧ q < s.heap.size + 827); omega))
  clear hk1
  refine lv_aload_n hx hb dL_law_423 rfl (lv_at hl 1 rfl) ?_
  refine lv_aload_n hx hb dL_law_424 rfl (lv_at hl 3 rfl) ?_
  refine lv_iload_n hx hb dL_law_425 rfl (lv_at hl 0 rfl) ?_
  refine lv_iconst (v := (nI 1)) hx hb dL_law_426 (by decide) ?_
  refine lv_iadd hx hb dL_law_427 ?_
  refine va_sld hx hb hX hbl hbA hS (i := ((nI 0) + (nI 1))) (by unfold vp_in; decide) dL_law_428 ?_
  rw [← hv1]
  refine xl_V (As := [.int v1]) (rest := [.int r_1]) (κ := 20) (τ := xy_t (s.heap.size + 827)) (M := xy_m (s.heap.size + 827)) (Ac := fun q => s.heap.size + 827 ≤ q) (Aw := (fun q => s.heap.size ≤ q)) ⟨hx, hb, hml, hown, hts⟩ (cm_untilDone l (xy_O (s.heap.size + 827)) (xy_m (s.heap.size + 827)) (s.heap.size + 827) (xy_20 _) (xy_h _) v1) (cwV 1 hts gL_law_X7_untilDone rfl rfl rfl (by decide +kernel) ⟨Nat.le_of_ble_eq_true rfl, Nat.le_of_ble_eq_true rfl⟩) hK hst hnw (fun _ q => Nat.le_trans (Nat.le_add_right _ _) q) (fun _ q => q) hS (xy_D hR) (xy_20 _) (by decide) rfl rfl rfl hl.1 rfl (Nat.le_of_ble_eq_true rfl) dL_law_429 ⟨Nat.le_of_ble_eq_true rfl, Nat.le_of_ble_eq_true rfl⟩ (fun r_4 M_6 H1 locs hq_5 hk1 hS => ?_)
  clear hk1
  refine lv_icmp_eq (tgt := 634) hx hb dL_law_432 (by decide) (fun c_7 => ?_) (fun c_7 => ?_)
  · exact kk _ _ _ hS hl
  · exact absurd (hq_2.trans hq_5.symm) c_7

set_option maxHeartbeats 4000000 in
set_option maxRecDepth 100000 in
theorem lx_11 {p : Program} {e : Env} {s : State} {m : MethodId} {below : List Frame} {meth : Method} {c : Code} (l : Launch) {b : Nat} {xs : Nat → Int32} {G : va_G} {g : Nat → ClassId} {t0 : Nat → Nat} {H : Heap} {locs : List Loc} {ls : Array Slot} (I : lx_I p s m meth c b xs 3 G g t0 H locs) (hl : lv_has ls 4 [(3, .int (nI 0)), (2, .ref (s.heap.size + 827)), (1, .ref s.heap.size), (0, .ref b)]) (kk : ∀ (H : Heap) (locs : List Loc) (ls : Array Slot), va_S (fun q => s.heap.size ≤ q) s.heap H locs → lv_has ls 4 [(3, .int (nI 0)), (2, .ref (s.heap.size + 827)), (1, .ref s.heap.size), (0, .ref b)] → W p l e room_1 s m #[Value.ref b] below meth c H locs 837 12239 (lw_Z below #[Value.ref b] s) (F0 m 634 ls [])) : W p l e room_1 s m #[Value.ref b] below meth c H locs 837 12239 (lw_Z below #[Value.ref b] s) (F0 m 437 ls []) := by
  obtain ⟨⟨hx, hb, hr, hml, hown, htb, hX, hbl, hlocks, hgv⟩, hK, hst, hnw, hS, hB, hR, hz⟩ := I
  have hts : ∀ w ∈ wsL_law, w.before #[Value.ref b] s = true := fun w h => htb w (wsL_law_in w h)
  have hbA : ¬ (fun q => s.heap.size ≤ q) b := Nat.not_le.mpr hbl
  obtain ⟨v1, hv1⟩ : ∃ v, v = xs ((nI 0) + (nI 1)).toNatClampNeg := ⟨_, rfl⟩
  obtain ⟨v2, hv2⟩ : ∃ v, v = xs ((nI 0) + (nI 2)).toNatClampNeg := ⟨_, rfl⟩
  refine lv_aload_n hx hb dL_law_437 rfl (lv_at hl 2 rfl) ?_
  refine lv_aload_n hx hb dL_law_438 rfl (lv_at hl 3 rfl) ?_
  refine lv_iload_n hx hb dL_law_439 rfl (lv_at hl 0 rfl) ?_
  refine lv_iconst (v := (nI 1)) hx hb dL_law_440 (by decide) ?_
  refine lv_iadd hx hb dL_law_441 ?_
  refine va_sld hx hb hX hbl hbA hS (i := ((nI 0) + (nI 1))) (by unfold vp_in; decide) dL_law_442 ?_
  rw [← hv1]
  refine lv_aload_n hx hb dL_law_443 rfl (lv_at hl 3 rfl) ?_
  refine lv_iload_n hx hb dL_law_444 rfl (lv_at hl 0 rfl) ?_
  refine lv_iconst (v := (nI 2)) hx hb dL_law_445 (by decide) ?_
  refine lv_iadd hx hb dL_law_446 ?_
  refine va_sld hx hb hX hbl hbA hS (i := ((nI 0) + (nI 2))) (by unfold vp_in; decide) dL_law_447 ?_
  rw [← hv2]
  refine xl_V (As := [.int v1, .int v2]) (rest := []) (κ := 16) (τ := xz_t s.heap.size) (M := xd_m s.heap.size) (Ac := fun q => s.heap.size ≤ q ∧ q < s.heap.size + 827) (Aw := (fun q => s.heap.size ≤ q)) ⟨hx, hb, hml, hown, hts⟩ (cp_ifPassed l (xz_O s.heap.size) (xd_m s.heap.size) s.heap.size (xz_16 _) (xp_h _) v1 v2) (cwV 2 hts gL_law_X6_ifPassed rfl rfl rfl (by decide +kernel) ⟨Nat.le_of_ble_eq_true rfl, Nat.le_of_ble_eq_true rfl⟩) hK hst hnw (fun _ q => q.1) (fun _ q => q) hS (xz_D hB) (xz_16 _) (by decide) rfl rfl rfl hl.1 rfl (Nat.le_of_ble_eq_true rfl) dL_law_448 ⟨Nat.le_of_ble_eq_true rfl, Nat.le_of_ble_eq_true rfl⟩ (fun r_1 M_3 H1 locs hq_2 hk1 hS => ?_)
  replace hR := hR.kept (fun q hq => hk1 q (by omega) (by show ¬ (s.heap.size ≤ q ∧ q < s.heap.size + 827); omega))
  clear hk1
  refine lv_aload_n hx hb dL_law_451 rfl (lv_at hl 1 rfl) ?_
  refine lv_aload_n hx hb dL_law_452 rfl (lv_at hl 3 rfl) ?_
  refine lv_iload_n hx hb dL_law_453 rfl (lv_at hl 0 rfl) ?_
  refine lv_iconst (v := (nI 1)) hx hb dL_law_454 (by decide) ?_
  refine lv_iadd hx hb dL_law_455 ?_
  refine va_sld hx hb hX hbl hbA hS (i := ((nI 0) + (nI 1))) (by unfold vp_in; decide) dL_law_456 ?_
  rw [← hv1]
  refine lv_aload_n hx hb dL_law_457 rfl (lv_at hl 3 rfl) ?_
  refine lv_iload_n hx hb dL_law_458 rfl (lv_at hl 0 rfl) ?_
  refine lv_iconst (v := (nI 2)) hx hb dL_law_459 (by decide) ?_
  refine lv_iadd hx hb dL_law_460 ?_
  refine va_sld hx hb hX hbl hbA hS (i := ((nI 0) + (nI 2))) (by unfold vp_in; decide) dL_law_461 ?_
  rw [← hv2]
  refine xl_V (As := [.int v1, .int v2]) (rest := [.int r_1]) (κ := 20) (τ := xy_t (s.heap.size + 827)) (M := xy_m (s.heap.size + 827)) (Ac := fun q => s.heap.size + 827 ≤ q) (Aw := (fun q => s.heap.size ≤ q)) ⟨hx, hb, hml, hown, hts⟩ (cm_ifPassed l (xy_O (s.heap.size + 827)) (xy_m (s.heap.size + 827)) (s.heap.size + 827) (xy_20 _) (xr_p (xy_h _)) (fun k hk => ((xy_h _).1 _ (by omega)).trans (xm_0 (by omega))) v1 v2) (cwV 2 hts gL_law_X7_ifPassed rfl rfl rfl (by decide +kernel) ⟨Nat.le_of_ble_eq_true rfl, Nat.le_of_ble_eq_true rfl⟩) hK hst hnw (fun _ q => Nat.le_trans (Nat.le_add_right _ _) q) (fun _ q => q) hS (xy_D hR) (xy_20 _) (by decide) rfl rfl rfl hl.1 rfl (Nat.le_of_ble_eq_true rfl) dL_law_462 ⟨Nat.le_of_ble_eq_true rfl, Nat.le_of_ble_eq_true rfl⟩ (fun r_4 M_6 H1 locs hq_5 hk1 hS => ?_)
  clear hk1
  refine lv_icmp_eq (tgt := 634) hx hb dL_law_465 (by decide) (fun c_7 => ?_) (fun c_7 => ?_)
  · exact kk _ _ _ hS hl
  · exact absurd (hq_2.trans hq_5.1.symm) c_7

set_option maxHeartbeats 4000000 in
set_option maxRecDepth 100000 in
theorem lx_12 {p : Program} {e : Env} {s : State} {m : MethodId} {below : List Frame} {meth : Method} {c : Code} (l : Launch) {b : Nat} {xs : Nat → Int32} {G : va_G} {g : Nat → ClassId} {t0 : Nat → Nat} {H : Heap} {locs : List Loc} {ls : Array Slot} (I : lx_I p s m meth c b xs 3 G g t0 H locs) (hl : lv_has ls 4 [(3, .int (nI 0)), (2, .ref (s.heap.size + 827)), (1, .ref s.heap.size), (0, .ref b)]) (kk : ∀ (H : Heap) (locs : List Loc) (ls : Array Slot), va_S (fun q => s.heap.size ≤ q) s.heap H locs → lv_has ls 4 [(3, .int (nI 0)), (2, .ref (s.heap.size + 827)), (1, .ref s.heap.size), (0, .ref b)] → W p l e room_1 s m #[Value.ref b] below meth c H locs 837 12239 (lw_Z below #[Value.ref b] s) (F0 m 634 ls [])) : W p l e room_1 s m #[Value.ref b] below meth c H locs 837 12239 (lw_Z below #[Value.ref b] s) (F0 m 470 ls []) := by
  obtain ⟨⟨hx, hb, hr, hml, hown, htb, hX, hbl, hlocks, hgv⟩, hK, hst, hnw, hS, hB, hR, hz⟩ := I
  have hts : ∀ w ∈ wsL_law, w.before #[Value.ref b] s = true := fun w h => htb w (wsL_law_in w h)
  have hbA : ¬ (fun q => s.heap.size ≤ q) b := Nat.not_le.mpr hbl
  refine lv_aload_n hx hb dL_law_470 rfl (lv_at hl 2 rfl) ?_
  refine xl_V (As := []) (rest := []) (κ := 16) (τ := xz_t s.heap.size) (M := xd_m s.heap.size) (Ac := fun q => s.heap.size ≤ q ∧ q < s.heap.size + 827) (Aw := (fun q => s.heap.size ≤ q)) ⟨hx, hb, hml, hown, hts⟩ (cp_bestClerk l (xz_O s.heap.size) (xd_m s.heap.size) s.heap.size (xz_16 _) (xp_h _)) (cwV 0 hts gL_law_X6_bestClerk rfl rfl rfl (by decide +kernel) ⟨Nat.le_of_ble_eq_true rfl, Nat.le_of_ble_eq_true rfl⟩) hK hst hnw (fun _ q => q.1) (fun _ q => q) hS (xz_D hB) (xz_16 _) (by decide) rfl rfl rfl hl.1 rfl (Nat.le_of_ble_eq_true rfl) dL_law_471 ⟨Nat.le_of_ble_eq_true rfl, Nat.le_of_ble_eq_true rfl⟩ (fun r_1 M_3 H1 locs hq_2 hk1 hS => ?_)
  replace hR := hR.kept (fun q hq => hk1 q (by omega) (by show ¬ (s.heap.size ≤ q ∧ q < s.heap.size + 827); omega))
  clear hk1
  refine lv_aload_n hx hb dL_law_474 rfl (lv_at hl 1 rfl) ?_
  refine xl_V (As := []) (rest := [.int r_1]) (κ := 20) (τ := xy_t (s.heap.size + 827)) (M := xy_m (s.heap.size + 827)) (Ac := fun q => s.heap.size + 827 ≤ q) (Aw := (fun q => s.heap.size ≤ q)) ⟨hx, hb, hml, hown, hts⟩ (cm_bestClerk l (xy_O (s.heap.size + 827)) (xy_m (s.heap.size + 827)) (s.heap.size + 827) (xy_20 _) (xy_h _)) (cwV 0 hts gL_law_X7_bestClerk rfl rfl rfl (by decide +kernel) ⟨Nat.le_of_ble_eq_true rfl, Nat.le_of_ble_eq_true rfl⟩) hK hst hnw (fun _ q => Nat.le_trans (Nat.le_add_right _ _) q) (fun _ q => q) hS (xy_D hR) (xy_20 _) (by decide) rfl rfl rfl hl.1 rfl (Nat.le_of_ble_eq_true rfl) dL_law_475 ⟨Nat.le_of_ble_eq_true rfl, Nat.le_of_ble_eq_true rfl⟩ (fun r_4 M_6 H1 locs hq_5 hk1 hS => ?_)
  clear hk1
  refine lv_icmp_eq (tgt := 634) hx hb dL_law_478 (by decide) (fun c_7 => ?_) (fun c_7 => ?_)
  · exact kk _ _ _ hS hl
  · exact absurd (hq_2.trans hq_5.symm) c_7

set_option maxHeartbeats 4000000 in
set_option maxRecDepth 100000 in
theorem lx_13 {p : Program} {e : Env} {s : State} {m : MethodId} {below : List Frame} {meth : Method} {c : Code} (l : Launch) {b : Nat} {xs : Nat → Int32} {G : va_G} {g : Nat → ClassId} {t0 : Nat → Nat} {H : Heap} {locs : List Loc} {ls : Array Slot} (I : lx_I p s m meth c b xs 3 G g t0 H locs) (hl : lv_has ls 4 [(3, .int (nI 0)), (2, .ref (s.heap.size + 827)), (1, .ref s.heap.size), (0, .ref b)]) (kk : ∀ (H : Heap) (locs : List Loc) (ls : Array Slot), va_S (fun q => s.heap.size ≤ q) s.heap H locs → lv_has ls 4 [(3, .int (nI 0)), (2, .ref (s.heap.size + 827)), (1, .ref s.heap.size), (0, .ref b)] → W p l e room_1 s m #[Value.ref b] below meth c H locs 837 12239 (lw_Z below #[Value.ref b] s) (F0 m 634 ls [])) : W p l e room_1 s m #[Value.ref b] below meth c H locs 837 12239 (lw_Z below #[Value.ref b] s) (F0 m 483 ls []) := by
  obtain ⟨⟨hx, hb, hr, hml, hown, htb, hX, hbl, hlocks, hgv⟩, hK, hst, hnw, hS, hB, hR, hz⟩ := I
  have hts : ∀ w ∈ wsL_law, w.before #[Value.ref b] s = true := fun w h => htb w (wsL_law_in w h)
  have hbA : ¬ (fun q => s.heap.size ≤ q) b := Nat.not_le.mpr hbl
  refine lv_aload_n hx hb dL_law_483 rfl (lv_at hl 2 rfl) ?_
  refine xl_V (As := []) (rest := []) (κ := 16) (τ := xz_t s.heap.size) (M := xd_m s.heap.size) (Ac := fun q => s.heap.size ≤ q ∧ q < s.heap.size + 827) (Aw := (fun q => s.heap.size ≤ q)) ⟨hx, hb, hml, hown, hts⟩ (cp_longest l (xz_O s.heap.size) (xd_m s.heap.size) s.heap.size (xz_16 _) (xp_h _)) (cwV 0 hts gL_law_X6_longest rfl rfl rfl (by decide +kernel) ⟨Nat.le_of_ble_eq_true rfl, Nat.le_of_ble_eq_true rfl⟩) hK hst hnw (fun _ q => q.1) (fun _ q => q) hS (xz_D hB) (xz_16 _) (by decide) rfl rfl rfl hl.1 rfl (Nat.le_of_ble_eq_true rfl) dL_law_484 ⟨Nat.le_of_ble_eq_true rfl, Nat.le_of_ble_eq_true rfl⟩ (fun r_1 M_3 H1 locs hq_2 hk1 hS => ?_)
  replace hR := hR.kept (fun q hq => hk1 q (by omega) (by show ¬ (s.heap.size ≤ q ∧ q < s.heap.size + 827); omega))
  clear hk1
  refine lv_aload_n hx hb dL_law_487 rfl (lv_at hl 1 rfl) ?_
  refine xl_V (As := []) (rest := [.int r_1]) (κ := 20) (τ := xy_t (s.heap.size + 827)) (M := xy_m (s.heap.size + 827)) (Ac := fun q => s.heap.size + 827 ≤ q) (Aw := (fun q => s.heap.size ≤ q)) ⟨hx, hb, hml, hown, hts⟩ (cm_longest l (xy_O (s.heap.size + 827)) (xy_m (s.heap.size + 827)) (s.heap.size + 827) (xy_20 _) (xy_h _)) (cwV 0 hts gL_law_X7_longest rfl rfl rfl (by decide +kernel) ⟨Nat.le_of_ble_eq_true rfl, Nat.le_of_ble_eq_true rfl⟩) hK hst hnw (fun _ q => Nat.le_trans (Nat.le_add_right _ _) q) (fun _ q => q) hS (xy_D hR) (xy_20 _) (by decide) rfl rfl rfl hl.1 rfl (Nat.le_of_ble_eq_true rfl) dL_law_488 ⟨Nat.le_of_ble_eq_true rfl, Nat.le_of_ble_eq_true rfl⟩ (fun r_4 M_6 H1 locs hq_5 hk1 hS => ?_)
  clear hk1
  refine lv_icmp_eq (tgt := 634) hx hb dL_law_491 (by decide) (fun c_7 => ?_) (fun c_7 => ?_)
  · exact kk _ _ _ hS hl
  · exact absurd (hq_2.trans hq_5.symm) c_7

set_option maxHeartbeats 4000000 in
set_option maxRecDepth 100000 in
theorem lx_14 {p : Program} {e : Env} {s : State} {m : MethodId} {below : List Frame} {meth : Method} {c : Code} (l : Launch) {b : Nat} {xs : Nat → Int32} {G : va_G} {g : Nat → ClassId} {t0 : Nat → Nat} {H : Heap} {locs : List Loc} {ls : Array Slot} (I : lx_I p s m meth c b xs 3 G g t0 H locs) (hl : lv_has ls 4 [(3, .int (nI 0)), (2, .ref (s.heap.size + 827)), (1, .ref s.heap.size), (0, .ref b)]) (kk : ∀ (H : Heap) (locs : List Loc) (ls : Array Slot), va_S (fun q => s.heap.size ≤ q) s.heap H locs → lv_has ls 4 [(3, .int (nI 0)), (2, .ref (s.heap.size + 827)), (1, .ref s.heap.size), (0, .ref b)] → W p l e room_1 s m #[Value.ref b] below meth c H locs 837 12239 (lw_Z below #[Value.ref b] s) (F0 m 634 ls [])) : W p l e room_1 s m #[Value.ref b] below meth c H locs 837 12239 (lw_Z below #[Value.ref b] s) (F0 m 496 ls []) := by
  obtain ⟨⟨hx, hb, hr, hml, hown, htb, hX, hbl, hlocks, hgv⟩, hK, hst, hnw, hS, hB, hR, hz⟩ := I
  have hts : ∀ w ∈ wsL_law, w.before #[Value.ref b] s = true := fun w h => htb w (wsL_law_in w h)
  have hbA : ¬ (fun q => s.heap.size ≤ q) b := Nat.not_le.mpr hbl
  obtain ⟨v1, hv1⟩ : ∃ v, v = xs ((nI 0) + (nI 1)).toNatClampNeg := ⟨_, rfl⟩
  obtain ⟨v2, hv2⟩ : ∃ v, v = xs ((nI 0) + (nI 2)).toNatClampNeg := ⟨_, rfl⟩
  refine lv_aload_n hx hb dL_law_496 rfl (lv_at hl 2 rfl) ?_
  refine lv_aload_n hx hb dL_law_497 rfl (lv_at hl 3 rfl) ?_
  refine lv_iload_n hx hb dL_law_498 rfl (lv_at hl 0 rfl) ?_
  refine lv_iconst (v := (nI 1)) hx hb dL_law_499 (by decide) ?_
  refine lv_iadd hx hb dL_law_500 ?_
  refine va_sld hx hb hX hbl hbA hS (i := ((nI 0) + (nI 1))) (by unfold vp_in; decide) dL_law_501 ?_
  rw [← hv1]
  refine lv_i2l (v := (v1).toInt64) hx hb dL_law_502 rfl ?_
  refine lv_bipush (v := (nI 32)) hx hb dL_law_503 (by decide) ?_
  refine lv_lshl (v := ((v1).toInt64 <<< ((nI 32).toInt64 &&& 63))) hx hb dL_law_505 rfl ?_
  refine lv_aload_n hx hb dL_law_506 rfl (lv_at hl 3 rfl) ?_
  refine lv_iload_n hx hb dL_law_507 rfl (lv_at hl 0 rfl) ?_
  refine lv_iconst (v := (nI 2)) hx hb dL_law_508 (by decide) ?_
  refine lv_iadd hx hb dL_law_509 ?_
  refine va_sld hx hb hX hbl hbA hS (i := ((nI 0) + (nI 2))) (by unfold vp_in; decide) dL_law_510 ?_
  rw [← hv2]
  refine lv_i2l (v := (v2).toInt64) hx hb dL_law_511 rfl ?_
  refine lv_ldc2 (v := 4294967295) hx hb hown (hts (.constantLong RL 73 (4294967295)) (List.mem_of_getElem? (i := 6) (by decide +kernel))) dL_law_512 ?_
  refine lv_land hx hb dL_law_515 ?_
  refine lv_lor hx hb dL_law_516 ?_
  refine xl_V (As := [.long (((v1).toInt64 <<< ((nI 32).toInt64 &&& 63)) ||| ((v2).toInt64 &&& (4294967295 : Int64)))]) (rest := []) (κ := 16) (τ := xz_t s.heap.size) (M := xd_m s.heap.size) (Ac := fun q => s.heap.size ≤ q ∧ q < s.heap.size + 827) (Aw := (fun q => s.heap.size ≤ q)) ⟨hx, hb, hml, hown, hts⟩ (cp_put l (xz_O s.heap.size) (xd_m s.heap.size) s.heap.size (xz_16 _) (xp_h _) (((v1).toInt64 <<< ((nI 32).toInt64 &&& 63)) ||| ((v2).toInt64 &&& (4294967295 : Int64)))) (cwV 1 hts gL_law_X6_put rfl rfl rfl (by decide +kernel) ⟨Nat.le_of_ble_eq_true rfl, Nat.le_of_ble_eq_true rfl⟩) hK hst hnw (fun _ q => q.1) (fun _ q => q) hS (xz_D hB) (xz_16 _) (by decide) rfl rfl rfl hl.1 rfl (Nat.le_of_ble_eq_true rfl) dL_law_517 ⟨Nat.le_of_ble_eq_true rfl, Nat.le_of_ble_eq_true rfl⟩ (fun r_1 M_3 H1 locs hq_2 hk1 hS => ?_)
  replace hR := hR.kept (fun q hq => hk1 q (by omega) (by show ¬ (s.heap.size ≤ q ∧ q < s.heap.size + 827); omega))
  clear hk1
  refine lv_aload_n hx hb dL_law_520 rfl (lv_at hl 1 rfl) ?_
  refine lv_aload_n hx hb dL_law_521 rfl (lv_at hl 3 rfl) ?_
  refine lv_iload_n hx hb dL_law_522 rfl (lv_at hl 0 rfl) ?_
  refine lv_iconst (v := (nI 1)) hx hb dL_law_523 (by decide) ?_
  refine lv_iadd hx hb dL_law_524 ?_
  refine va_sld hx hb hX hbl hbA hS (i := ((nI 0) + (nI 1))) (by unfold vp_in; decide) dL_law_525 ?_
  rw [← hv1]
  refine lv_i2l (v := (v1).toInt64) hx hb dL_law_526 rfl ?_
  refine lv_bipush (v := (nI 32)) hx hb dL_law_527 (by decide) ?_
  refine lv_lshl (v := ((v1).toInt64 <<< ((nI 32).toInt64 &&& 63))) hx hb dL_law_529 rfl ?_
  refine lv_aload_n hx hb dL_law_530 rfl (lv_at hl 3 rfl) ?_
  refine lv_iload_n hx hb dL_law_531 rfl (lv_at hl 0 rfl) ?_
  refine lv_iconst (v := (nI 2)) hx hb dL_law_532 (by decide) ?_
  refine lv_iadd hx hb dL_law_533 ?_
  refine va_sld hx hb hX hbl hbA hS (i := ((nI 0) + (nI 2))) (by unfold vp_in; decide) dL_law_534 ?_
  rw [← hv2]
  refine lv_i2l (v := (v2).toInt64) hx hb dL_law_535 rfl ?_
  refine lv_ldc2 (v := 4294967295) hx hb hown (hts (.constantLong RL 73 (4294967295)) (List.mem_of_getElem? (i := 6) (by decide +kernel))) dL_law_536 ?_
  refine lv_land hx hb dL_law_539 ?_
  refine lv_lor hx hb dL_law_540 ?_
  refine xl_V (As := [.long (((v1).toInt64 <<< ((nI 32).toInt64 &&& 63)) ||| ((v2).toInt64 &&& (4294967295 : Int64)))]) (rest := [.int r_1]) (κ := 20) (τ := xy_t (s.heap.size + 827)) (M := xy_m (s.heap.size + 827)) (Ac := fun q => s.heap.size + 827 ≤ q) (Aw := (fun q => s.heap.size ≤ q)) ⟨hx, hb, hml, hown, hts⟩ (cm_put l (xy_O (s.heap.size + 827)) (xy_m (s.heap.size + 827)) (s.heap.size + 827) (xy_20 _) (xy_h _) (((v1).toInt64 <<< ((nI 32).toInt64 &&& 63)) ||| ((v2).toInt64 &&& (4294967295 : Int64)))) (cwV 1 hts gL_law_X7_put rfl rfl rfl (by decide +kernel) ⟨Nat.le_of_ble_eq_true rfl, Nat.le_of_ble_eq_true rfl⟩) hK hst hnw (fun _ q => Nat.le_trans (Nat.le_add_right _ _) q) (fun _ q => q) hS (xy_D hR) (xy_20 _) (by decide) rfl rfl rfl hl.1 rfl (Nat.le_of_ble_eq_true rfl) dL_law_541 ⟨Nat.le_of_ble_eq_true rfl, Nat.le_of_ble_eq_true rfl⟩ (fun r_4 M_6 H1 locs hq_5 hk1 hS => ?_)
  clear hk1
  refine lv_icmp_eq (tgt := 634) hx hb dL_law_544 (by decide) (fun c_7 => ?_) (fun c_7 => ?_)
  · exact kk _ _ _ hS hl
  · exact absurd (hq_2.trans hq_5.symm) c_7

set_option maxHeartbeats 4000000 in
set_option maxRecDepth 100000 in
theorem lx_15 {p : Program} {e : Env} {s : State} {m : MethodId} {below : List Frame} {meth : Method} {c : Code} (l : Launch) {b : Nat} {xs : Nat → Int32} {G : va_G} {g : Nat → ClassId} {t0 : Nat → Nat} {H : Heap} {locs : List Loc} {ls : Array Slot} (I : lx_I p s m meth c b xs 3 G g t0 H locs) (hl : lv_has ls 4 [(3, .int (nI 0)), (2, .ref (s.heap.size + 827)), (1, .ref s.heap.size), (0, .ref b)]) (kk : ∀ (H : Heap) (locs : List Loc) (ls : Array Slot), va_S (fun q => s.heap.size ≤ q) s.heap H locs → lv_has ls 4 [(3, .int (nI 0)), (2, .ref (s.heap.size + 827)), (1, .ref s.heap.size), (0, .ref b)] → W p l e room_1 s m #[Value.ref b] below meth c H locs 837 12239 (lw_Z below #[Value.ref b] s) (F0 m 634 ls [])) : W p l e room_1 s m #[Value.ref b] below meth c H locs 837 12239 (lw_Z below #[Value.ref b] s) (F0 m 549 ls []) := by
  obtain ⟨⟨hx, hb, hr, hml, hown, htb, hX, hbl, hlocks, hgv⟩, hK, hst, hnw, hS, hB, hR, hz⟩ := I
  have hts : ∀ w ∈ wsL_law, w.before #[Value.ref b] s = true := fun w h => htb w (wsL_law_in w h)
  have hbA : ¬ (fun q => s.heap.size ≤ q) b := Nat.not_le.mpr hbl
  refine lv_aload_n hx hb dL_law_549 rfl (lv_at hl 2 rfl) ?_
  refine xl_V (As := []) (rest := []) (κ := 16) (τ := xz_t s.heap.size) (M := xd_m s.heap.size) (Ac := fun q => s.heap.size ≤ q ∧ q < s.heap.size + 827) (Aw := (fun q => s.heap.size ≤ q)) ⟨hx, hb, hml, hown, hts⟩ (cp_wipe l (xz_O s.heap.size) (xd_m s.heap.size) s.heap.size (xz_16 _) (xp_h _)) (cwV 0 hts gL_law_X6_wipe rfl rfl rfl (by decide +kernel) ⟨Nat.le_of_ble_eq_true rfl, Nat.le_of_ble_eq_true rfl⟩) hK hst hnw (fun _ q => q.1) (fun _ q => q) hS (xz_D hB) (xz_16 _) (by decide) rfl rfl rfl hl.1 rfl (Nat.le_of_ble_eq_true rfl) dL_law_550 ⟨Nat.le_of_ble_eq_true rfl, Nat.le_of_ble_eq_true rfl⟩ (fun r_1 M_3 H1 locs hq_2 hk1 hS => ?_)
  replace hR := hR.kept (fun q hq => hk1 q (by omega) (by show ¬ (s.heap.size ≤ q ∧ q < s.heap.size + 827); omega))
  clear hk1
  refine lv_aload_n hx hb dL_law_553 rfl (lv_at hl 1 rfl) ?_
  refine xl_V (As := []) (rest := [.int r_1]) (κ := 20) (τ := xy_t (s.heap.size + 827)) (M := xy_m (s.heap.size + 827)) (Ac := fun q => s.heap.size + 827 ≤ q) (Aw := (fun q => s.heap.size ≤ q)) ⟨hx, hb, hml, hown, hts⟩ (cm_wipe l (xy_O (s.heap.size + 827)) (xy_m (s.heap.size + 827)) (s.heap.size + 827) (xy_20 _) (xy_h _)) (cwV 0 hts gL_law_X7_wipe rfl rfl rfl (by decide +kernel) ⟨Nat.le_of_ble_eq_true rfl, Nat.le_of_ble_eq_true rfl⟩) hK hst hnw (fun _ q => Nat.le_trans (Nat.le_add_right _ _) q) (fun _ q => q) hS (xy_D hR) (xy_20 _) (by decide) rfl rfl rfl hl.1 rfl (Nat.le_of_ble_eq_true rfl) dL_law_554 ⟨Nat.le_of_ble_eq_true rfl, Nat.le_of_ble_eq_true rfl⟩ (fun r_4 M_6 H1 locs hq_5 hk1 hS => ?_)
  clear hk1
  refine lv_icmp_eq (tgt := 634) hx hb dL_law_557 (by decide) (fun c_7 => ?_) (fun c_7 => ?_)
  · exact kk _ _ _ hS hl
  · exact absurd (hq_2.trans hq_5.symm) c_7

set_option maxHeartbeats 4000000 in
set_option maxRecDepth 100000 in
theorem lx_16 {p : Program} {e : Env} {s : State} {m : MethodId} {below : List Frame} {meth : Method} {c : Code} (l : Launch) {b : Nat} {xs : Nat → Int32} {G : va_G} {g : Nat → ClassId} {t0 : Nat → Nat} {H : Heap} {locs : List Loc} {ls : Array Slot} (I : lx_I p s m meth c b xs 3 G g t0 H locs) (hl : lv_has ls 4 [(3, .int (nI 0)), (2, .ref (s.heap.size + 827)), (1, .ref s.heap.size), (0, .ref b)]) (kk : ∀ (H : Heap) (locs : List Loc) (ls : Array Slot), va_S (fun q => s.heap.size ≤ q) s.heap H locs → lv_has ls 4 [(3, .int (nI 0)), (2, .ref (s.heap.size + 827)), (1, .ref s.heap.size), (0, .ref b)] → W p l e room_1 s m #[Value.ref b] below meth c H locs 837 12239 (lw_Z below #[Value.ref b] s) (F0 m 634 ls [])) : W p l e room_1 s m #[Value.ref b] below meth c H locs 837 12239 (lw_Z below #[Value.ref b] s) (F0 m 562 ls []) := by
  obtain ⟨⟨hx, hb, hr, hml, hown, htb, hX, hbl, hlocks, hgv⟩, hK, hst, hnw, hS, hB, hR, hz⟩ := I
  have hts : ∀ w ∈ wsL_law, w.before #[Value.ref b] s = true := fun w h => htb w (wsL_law_in w h)
  have hbA : ¬ (fun q => s.heap.size ≤ q) b := Nat.not_le.mpr hbl
  refine lv_aload_n hx hb dL_law_562 rfl (lv_at hl 2 rfl) ?_
  refine xl_V (As := []) (rest := []) (κ := 16) (τ := xz_t s.heap.size) (M := xd_m s.heap.size) (Ac := fun q => s.heap.size ≤ q ∧ q < s.heap.size + 827) (Aw := (fun q => s.heap.size ≤ q)) ⟨hx, hb, hml, hown, hts⟩ (cp_fault l (xz_O s.heap.size) (xd_m s.heap.size) s.heap.size (xz_16 _) (xp_h _)) (cwV 0 hts gL_law_X6_fault rfl rfl rfl (by decide +kernel) ⟨Nat.le_of_ble_eq_true rfl, Nat.le_of_ble_eq_true rfl⟩) hK hst hnw (fun _ q => q.1) (fun _ q => q) hS (xz_D hB) (xz_16 _) (by decide) rfl rfl rfl hl.1 rfl (Nat.le_of_ble_eq_true rfl) dL_law_563 ⟨Nat.le_of_ble_eq_true rfl, Nat.le_of_ble_eq_true rfl⟩ (fun r_1 M_3 H1 locs hq_2 hk1 hS => ?_)
  replace hR := hR.kept (fun q hq => hk1 q (by omega) (by show ¬ (s.heap.size ≤ q ∧ q < s.heap.size + 827); omega))
  clear hk1
  refine lv_aload_n hx hb dL_law_566 rfl (lv_at hl 1 rfl) ?_
  refine xl_V (As := []) (rest := [.int r_1]) (κ := 20) (τ := xy_t (s.heap.size + 827)) (M := xy_m (s.heap.size + 827)) (Ac := fun q => s.heap.size + 827 ≤ q) (Aw := (fun q => s.heap.size ≤ q)) ⟨hx, hb, hml, hown, hts⟩ (cm_fault l (xy_O (s.heap.size + 827)) (xy_m (s.heap.size + 827)) (s.heap.size + 827) (xy_20 _) (xy_h _)) (cwV 0 hts gL_law_X7_fault rfl rfl rfl (by decide +kernel) ⟨Nat.le_of_ble_eq_true rfl, Nat.le_of_ble_eq_true rfl⟩) hK hst hnw (fun _ q => Nat.le_trans (Nat.le_add_right _ _) q) (fun _ q => q) hS (xy_D hR) (xy_20 _) (by decide) rfl rfl rfl hl.1 rfl (Nat.le_of_ble_eq_true rfl) dL_law_567 ⟨Nat.le_of_ble_eq_true rfl, Nat.le_of_ble_eq_true rfl⟩ (fun r_4 M_6 H1 locs hq_5 hk1 hS => ?_)
  clear hk1
  refine lv_icmp_eq (tgt := 634) hx hb dL_law_570 (by decide) (fun c_7 => ?_) (fun c_7 => ?_)
  · exact kk _ _ _ hS hl
  · exact absurd (hq_2.trans hq_5.symm) c_7

set_option maxHeartbeats 4000000 in
set_option maxRecDepth 100000 in
theorem lx_17 {p : Program} {e : Env} {s : State} {m : MethodId} {below : List Frame} {meth : Method} {c : Code} (l : Launch) {b : Nat} {xs : Nat → Int32} {G : va_G} {g : Nat → ClassId} {t0 : Nat → Nat} {H : Heap} {locs : List Loc} {ls : Array Slot} (I : lx_I p s m meth c b xs 3 G g t0 H locs) (hl : lv_has ls 4 [(3, .int (nI 0)), (2, .ref (s.heap.size + 827)), (1, .ref s.heap.size), (0, .ref b)]) (kk : ∀ (H : Heap) (locs : List Loc) (ls : Array Slot), va_S (fun q => s.heap.size ≤ q) s.heap H locs → lv_has ls 4 [(3, .int (nI 0)), (2, .ref (s.heap.size + 827)), (1, .ref s.heap.size), (0, .ref b)] → W p l e room_1 s m #[Value.ref b] below meth c H locs 837 12239 (lw_Z below #[Value.ref b] s) (F0 m 634 ls [])) : W p l e room_1 s m #[Value.ref b] below meth c H locs 837 12239 (lw_Z below #[Value.ref b] s) (F0 m 575 ls []) := by
  obtain ⟨⟨hx, hb, hr, hml, hown, htb, hX, hbl, hlocks, hgv⟩, hK, hst, hnw, hS, hB, hR, hz⟩ := I
  have hts : ∀ w ∈ wsL_law, w.before #[Value.ref b] s = true := fun w h => htb w (wsL_law_in w h)
  have hbA : ¬ (fun q => s.heap.size ≤ q) b := Nat.not_le.mpr hbl
  refine lv_aload_n hx hb dL_law_575 rfl (lv_at hl 2 rfl) ?_
  refine xl_V (As := []) (rest := []) (κ := 16) (τ := xz_t s.heap.size) (M := xd_m s.heap.size) (Ac := fun q => s.heap.size ≤ q ∧ q < s.heap.size + 827) (Aw := (fun q => s.heap.size ≤ q)) ⟨hx, hb, hml, hown, hts⟩ (cp_undo l (xz_O s.heap.size) (xd_m s.heap.size) s.heap.size (xz_16 _) (xp_h _)) (cwV 0 hts gL_law_X6_undo rfl rfl rfl (by decide +kernel) ⟨Nat.le_of_ble_eq_true rfl, Nat.le_of_ble_eq_true rfl⟩) hK hst hnw (fun _ q => q.1) (fun _ q => q) hS (xz_D hB) (xz_16 _) (by decide) rfl rfl rfl hl.1 rfl (Nat.le_of_ble_eq_true rfl) dL_law_576 ⟨Nat.le_of_ble_eq_true rfl, Nat.le_of_ble_eq_true rfl⟩ (fun r_1 M_3 H1 locs hq_2 hk1 hS => ?_)
  replace hR := hR.kept (fun q hq => hk1 q (by omega) (by show ¬ (s.heap.size ≤ q ∧ q < s.heap.size + 827); omega))
  clear hk1
  refine lv_aload_n hx hb dL_law_579 rfl (lv_at hl 1 rfl) ?_
  refine xl_V (As := []) (rest := [.int r_1]) (κ := 20) (τ := xy_t (s.heap.size + 827)) (M := xy_m (s.heap.size + 827)) (Ac := fun q => s.heap.size + 827 ≤ q) (Aw := (fun q => s.heap.size ≤ q)) ⟨hx, hb, hml, hown, hts⟩ (cm_undo l (xy_O (s.heap.size + 827)) (xy_m (s.heap.size + 827)) (s.heap.size + 827) (xy_20 _) (xy_h _)) (cwV 0 hts gL_law_X7_undo rfl rfl rfl (by decide +kernel) ⟨Nat.le_of_ble_eq_true rfl, Nat.le_of_ble_eq_true rfl⟩) hK hst hnw (fun _ q => Nat.le_trans (Nat.le_add_right _ _) q) (fun _ q => q) hS (xy_D hR) (xy_20 _) (by decide) rfl rfl rfl hl.1 rfl (Nat.le_of_ble_eq_true rfl) dL_law_580 ⟨Nat.le_of_ble_eq_true rfl, Nat.le_of_ble_eq_true rfl⟩ (fun r_4 M_6 H1 locs hq_5 hk1 hS => ?_)
  clear hk1
  refine lv_icmp_eq (tgt := 634) hx hb dL_law_583 (by decide) (fun c_7 => ?_) (fun c_7 => ?_)
  · exact kk _ _ _ hS hl
  · exact absurd (hq_2.trans hq_5.symm) c_7

set_option maxHeartbeats 4000000 in
set_option maxRecDepth 100000 in
theorem lx_18 {p : Program} {e : Env} {s : State} {m : MethodId} {below : List Frame} {meth : Method} {c : Code} (l : Launch) {b : Nat} {xs : Nat → Int32} {G : va_G} {g : Nat → ClassId} {t0 : Nat → Nat} {H : Heap} {locs : List Loc} {ls : Array Slot} (I : lx_I p s m meth c b xs 3 G g t0 H locs) (hl : lv_has ls 4 [(3, .int (nI 0)), (2, .ref (s.heap.size + 827)), (1, .ref s.heap.size), (0, .ref b)]) (kk : ∀ (H : Heap) (locs : List Loc) (ls : Array Slot), va_S (fun q => s.heap.size ≤ q) s.heap H locs → lv_has ls 4 [(3, .int (nI 0)), (2, .ref (s.heap.size + 827)), (1, .ref s.heap.size), (0, .ref b)] → W p l e room_1 s m #[Value.ref b] below meth c H locs 837 12239 (lw_Z below #[Value.ref b] s) (F0 m 634 ls [])) : W p l e room_1 s m #[Value.ref b] below meth c H locs 837 12239 (lw_Z below #[Value.ref b] s) (F0 m 588 ls []) := by
  obtain ⟨⟨hx, hb, hr, hml, hown, htb, hX, hbl, hlocks, hgv⟩, hK, hst, hnw, hS, hB, hR, hz⟩ := I
  have hts : ∀ w ∈ wsL_law, w.before #[Value.ref b] s = true := fun w h => htb w (wsL_law_in w h)
  have hbA : ¬ (fun q => s.heap.size ≤ q) b := Nat.not_le.mpr hbl
  obtain ⟨v1, hv1⟩ : ∃ v, v = xs ((nI 0) + (nI 1)).toNatClampNeg := ⟨_, rfl⟩
  refine lv_aload_n hx hb dL_law_588 rfl (lv_at hl 2 rfl) ?_
  refine lv_aload_n hx hb dL_law_589 rfl (lv_at hl 3 rfl) ?_
  refine lv_iload_n hx hb dL_law_590 rfl (lv_at hl 0 rfl) ?_
  refine lv_iconst (v := (nI 1)) hx hb dL_law_591 (by decide) ?_
  refine lv_iadd hx hb dL_law_592 ?_
  refine va_sld hx hb hX hbl hbA hS (i := ((nI 0) + (nI 1))) (by unfold vp_in; decide) dL_law_593 ?_
  rw [← hv1]
  refine xl_V (As := [.int v1]) (rest := []) (κ := 16) (τ := xz_t s.heap.size) (M := xd_m s.heap.size) (Ac := fun q => s.heap.size ≤ q ∧ q < s.heap.size + 827) (Aw := (fun q => s.heap.size ≤ q)) ⟨hx, hb, hml, hown, hts⟩ (cp_save l (xz_O s.heap.size) (xd_m s.heap.size) s.heap.size (xz_16 _) (xp_h _) v1) (cwV 1 hts gL_law_X6_save rfl rfl rfl (by decide +kernel) ⟨Nat.le_of_ble_eq_true rfl, Nat.le_of_ble_eq_true rfl⟩) hK hst hnw (fun _ q => q.1) (fun _ q => q) hS (xz_D hB) (xz_16 _) (by decide) rfl rfl rfl hl.1 rfl (Nat.le_of_ble_eq_true rfl) dL_law_594 ⟨Nat.le_of_ble_eq_true rfl, Nat.le_of_ble_eq_true rfl⟩ (fun r_1 M_3 H1 locs hq_2 hk1 hS => ?_)
  replace hR := hR.kept (fun q hq => hk1 q (by omega) (by show ¬ (s.heap.size ≤ q ∧ q < s.heap.size + 827); omega))
  clear hk1
  refine lv_aload_n hx hb dL_law_597 rfl (lv_at hl 1 rfl) ?_
  refine lv_aload_n hx hb dL_law_598 rfl (lv_at hl 3 rfl) ?_
  refine lv_iload_n hx hb dL_law_599 rfl (lv_at hl 0 rfl) ?_
  refine lv_iconst (v := (nI 1)) hx hb dL_law_600 (by decide) ?_
  refine lv_iadd hx hb dL_law_601 ?_
  refine va_sld hx hb hX hbl hbA hS (i := ((nI 0) + (nI 1))) (by unfold vp_in; decide) dL_law_602 ?_
  rw [← hv1]
  refine xl_V (As := [.int v1]) (rest := [.int r_1]) (κ := 20) (τ := xy_t (s.heap.size + 827)) (M := xy_m (s.heap.size + 827)) (Ac := fun q => s.heap.size + 827 ≤ q) (Aw := (fun q => s.heap.size ≤ q)) ⟨hx, hb, hml, hown, hts⟩ (cm_save l (xy_O (s.heap.size + 827)) (xy_m (s.heap.size + 827)) (s.heap.size + 827) (xy_20 _) (xy_h _) v1) (cwV 1 hts gL_law_X7_save rfl rfl rfl (by decide +kernel) ⟨Nat.le_of_ble_eq_true rfl, Nat.le_of_ble_eq_true rfl⟩) hK hst hnw (fun _ q => Nat.le_trans (Nat.le_add_right _ _) q) (fun _ q => q) hS (xy_D hR) (xy_20 _) (by decide) rfl rfl rfl hl.1 rfl (Nat.le_of_ble_eq_true rfl) dL_law_603 ⟨Nat.le_of_ble_eq_true rfl, Nat.le_of_ble_eq_true rfl⟩ (fun r_4 M_6 H1 locs hq_5 hk1 hS => ?_)
  clear hk1
  refine lv_icmp_eq (tgt := 634) hx hb dL_law_606 (by decide) (fun c_7 => ?_) (fun c_7 => ?_)
  · exact kk _ _ _ hS hl
  · exact absurd (hq_2.trans hq_5.symm) c_7

set_option maxHeartbeats 4000000 in
set_option maxRecDepth 100000 in
theorem lx_19 {p : Program} {e : Env} {s : State} {m : MethodId} {below : List Frame} {meth : Method} {c : Code} (l : Launch) {b : Nat} {xs : Nat → Int32} {G : va_G} {g : Nat → ClassId} {t0 : Nat → Nat} {H : Heap} {locs : List Loc} {ls : Array Slot} (I : lx_I p s m meth c b xs 3 G g t0 H locs) (hl : lv_has ls 4 [(3, .int (nI 0)), (2, .ref (s.heap.size + 827)), (1, .ref s.heap.size), (0, .ref b)]) (kk : ∀ (H : Heap) (locs : List Loc) (ls : Array Slot), va_S (fun q => s.heap.size ≤ q) s.heap H locs → lv_has ls 4 [(3, .int (nI 0)), (2, .ref (s.heap.size + 827)), (1, .ref s.heap.size), (0, .ref b)] → W p l e room_1 s m #[Value.ref b] below meth c H locs 837 12239 (lw_Z below #[Value.ref b] s) (F0 m 634 ls [])) : W p l e room_1 s m #[Value.ref b] below meth c H locs 837 12239 (lw_Z below #[Value.ref b] s) (F0 m 611 ls []) := by
  obtain ⟨⟨hx, hb, hr, hml, hown, htb, hX, hbl, hlocks, hgv⟩, hK, hst, hnw, hS, hB, hR, hz⟩ := I
  have hts : ∀ w ∈ wsL_law, w.before #[Value.ref b] s = true := fun w h => htb w (wsL_law_in w h)
  have hbA : ¬ (fun q => s.heap.size ≤ q) b := Nat.not_le.mpr hbl
  obtain ⟨v1, hv1⟩ : ∃ v, v = xs ((nI 0) + (nI 1)).toNatClampNeg := ⟨_, rfl⟩
  refine lv_aload_n hx hb dL_law_611 rfl (lv_at hl 2 rfl) ?_
  refine lv_aload_n hx hb dL_law_612 rfl (lv_at hl 3 rfl) ?_
  refine lv_iload_n hx hb dL_law_613 rfl (lv_at hl 0 rfl) ?_
  refine lv_iconst (v := (nI 1)) hx hb dL_law_614 (by decide) ?_
  refine lv_iadd hx hb dL_law_615 ?_
  refine va_sld hx hb hX hbl hbA hS (i := ((nI 0) + (nI 1))) (by unfold vp_in; decide) dL_law_616 ?_
  rw [← hv1]
  refine xl_V (As := [.int v1]) (rest := []) (κ := 16) (τ := xz_t s.heap.size) (M := xd_m s.heap.size) (Ac := fun q => s.heap.size ≤ q ∧ q < s.heap.size + 827) (Aw := (fun q => s.heap.size ≤ q)) ⟨hx, hb, hml, hown, hts⟩ (cp_restore l (xz_O s.heap.size) (xd_m s.heap.size) s.heap.size (xz_16 _) (xp_h _) v1) (cwV 1 hts gL_law_X6_restore rfl rfl rfl (by decide +kernel) ⟨Nat.le_of_ble_eq_true rfl, Nat.le_of_ble_eq_true rfl⟩) hK hst hnw (fun _ q => q.1) (fun _ q => q) hS (xz_D hB) (xz_16 _) (by decide) rfl rfl rfl hl.1 rfl (Nat.le_of_ble_eq_true rfl) dL_law_617 ⟨Nat.le_of_ble_eq_true rfl, Nat.le_of_ble_eq_true rfl⟩ (fun r_1 M_3 H1 locs hq_2 hk1 hS => ?_)
  replace hR := hR.kept (fun q hq => hk1 q (by omega) (by show ¬ (s.heap.size ≤ q ∧ q < s.heap.size + 827); omega))
  clear hk1
  refine lv_aload_n hx hb dL_law_620 rfl (lv_at hl 1 rfl) ?_
  refine lv_aload_n hx hb dL_law_621 rfl (lv_at hl 3 rfl) ?_
  refine lv_iload_n hx hb dL_law_622 rfl (lv_at hl 0 rfl) ?_
  refine lv_iconst (v := (nI 1)) hx hb dL_law_623 (by decide) ?_
  refine lv_iadd hx hb dL_law_624 ?_
  refine va_sld hx hb hX hbl hbA hS (i := ((nI 0) + (nI 1))) (by unfold vp_in; decide) dL_law_625 ?_
  rw [← hv1]
  refine xl_V (As := [.int v1]) (rest := [.int r_1]) (κ := 20) (τ := xy_t (s.heap.size + 827)) (M := xy_m (s.heap.size + 827)) (Ac := fun q => s.heap.size + 827 ≤ q) (Aw := (fun q => s.heap.size ≤ q)) ⟨hx, hb, hml, hown, hts⟩ (cm_restore l (xy_O (s.heap.size + 827)) (xy_m (s.heap.size + 827)) (s.heap.size + 827) (xy_20 _) (xy_h _) v1) (cwV 1 hts gL_law_X7_restore rfl rfl rfl (by decide +kernel) ⟨Nat.le_of_ble_eq_true rfl, Nat.le_of_ble_eq_true rfl⟩) hK hst hnw (fun _ q => Nat.le_trans (Nat.le_add_right _ _) q) (fun _ q => q) hS (xy_D hR) (xy_20 _) (by decide) rfl rfl rfl hl.1 rfl (Nat.le_of_ble_eq_true rfl) dL_law_626 ⟨Nat.le_of_ble_eq_true rfl, Nat.le_of_ble_eq_true rfl⟩ (fun r_4 M_6 H1 locs hq_5 hk1 hS => ?_)
  clear hk1
  refine lv_icmp_eq (tgt := 634) hx hb dL_law_629 (by decide) (fun c_7 => ?_) (fun c_7 => ?_)
  · exact kk _ _ _ hS hl
  · exact absurd (hq_2.trans hq_5.symm) c_7

theorem lx_end {p : Program} {e : Env} {s : State} {m : MethodId} {below : List Frame} {meth : Method} {c : Code} (l : Launch) {b : Nat} {xs : Nat → Int32} {H : Heap} {locs : List Loc} {ls : Array Slot} {L : Nat} (C0 : lw_At p s m meth c b L xs) (hS : va_S (fun q => s.heap.size ≤ q) s.heap H locs) : W p l e room_1 s m #[Value.ref b] below meth c H locs 837 12239 (lw_Z below #[Value.ref b] s) (F0 m 640 ls []) := by
  obtain ⟨hx, hb, hr, hml, hown, htb, hX, hbl, hlocks, hgv⟩ := C0
  refine lv_iconst (v := 1) hx hb dL_law_640 (by decide) ?_
  refine va_forget (fun q hq => hS.2.2 q hq) ?_
  refine W.widen (k := 600000) (n := 7302250) (by decide) (by decide) ?_
  exact lw_ret hx hb hr hlocks dL_law_641

set_option maxHeartbeats 4000000 in
set_option maxRecDepth 100000 in
theorem lx_634 {p : Program} {e : Env} {s : State} {m : MethodId} {below : List Frame} {meth : Method} {c : Code} (l : Launch) {b : Nat} {xs : Nat → Int32} {H : Heap} {locs : List Loc} {ls : Array Slot} (C0 : lw_At p s m meth c b 3 xs) (hS : va_S (fun q => s.heap.size ≤ q) s.heap H locs) (hl : lv_has ls 4 [(3, .int (nI 0)), (2, .ref (s.heap.size + 827)), (1, .ref s.heap.size), (0, .ref b)]) : W p l e room_1 s m #[Value.ref b] below meth c H locs 837 12239 (lw_Z below #[Value.ref b] s) (F0 m 634 ls []) := by
  have C1 := C0
  obtain ⟨hx, hb, hr, hml, hown, htb, hX, hbl, hlocks, hgv⟩ := C0
  have hbA : ¬ (fun q => s.heap.size ≤ q) b := Nat.not_le.mpr hbl
  refine lv_iinc (v := (nI 3)) (lv' := [(3, .int (nI 3)), (2, .ref (s.heap.size + 827)), (1, .ref s.heap.size), (0, .ref b)]) hx hb dL_law_634 hl (k := 0) rfl ((by decide)) (by decide) rfl (fun ls hl => ?_)
  refine lv_goto (tgt := 18) hx hb dL_law_637 (by decide) ?_
  refine lv_iload_n hx hb dL_law_18 rfl (lv_at hl 0 rfl) ?_
  refine lv_aload_n hx hb dL_law_19 rfl (lv_at hl 3 rfl) ?_
  refine va_slen hx hb hX hbl hbA hS dL_law_20 ?_
  refine lv_iconst (v := (nI 3)) hx hb dL_law_21 (by decide) ?_
  refine lv_isub hx hb dL_law_22 ?_
  refine lv_icmp_gt (tgt := 640) hx hb dL_law_23 (by decide) (fun c_1 => ?_) (fun c_1 => ?_)
  · exact lx_end l C1 hS
  · exact absurd (by decide) c_1

set_option maxHeartbeats 4000000 in
set_option maxRecDepth 100000 in
theorem lx_16_0 {p : Program} {e : Env} {s : State} {m : MethodId} {below : List Frame} {meth : Method} {c : Code} (l : Launch) {b : Nat} {xs : Nat → Int32} {G : va_G} {g : Nat → ClassId} {t0 : Nat → Nat} {H : Heap} {locs : List Loc} {ls : Array Slot} (I : lx_I p s m meth c b xs 0 G g t0 H locs) (hl : lv_has ls 4 [(2, .ref (s.heap.size + 827)), (1, .ref s.heap.size), (0, .ref b)]) : W p l e room_1 s m #[Value.ref b] below meth c H locs 837 12239 (lw_Z below #[Value.ref b] s) (F0 m 16 ls []) := by
  have I0 := I
  obtain ⟨⟨hx, hb, hr, hml, hown, htb, hX, hbl, hlocks, hgv⟩, hK, hst, hnw, hS, hB, hR, hz⟩ := I
  have hts : ∀ w ∈ wsL_law, w.before #[Value.ref b] s = true := fun w h => htb w (wsL_law_in w h)
  have hbA : ¬ (fun q => s.heap.size ≤ q) b := Nat.not_le.mpr hbl
  refine lv_iconst (v := (nI 0)) hx hb dL_law_16 (by decide) ?_
  refine lv_istore_n (lv' := [(3, .int (nI 0)), (2, .ref (s.heap.size + 827)), (1, .ref s.heap.size), (0, .ref b)]) hx hb dL_law_17 rfl hl (by decide) rfl (fun ls hl => ?_)
  refine lv_iload_n hx hb dL_law_18 rfl (lv_at hl 0 rfl) ?_
  refine lv_aload_n hx hb dL_law_19 rfl (lv_at hl 3 rfl) ?_
  refine va_slen hx hb hX hbl hbA hS dL_law_20 ?_
  refine lv_iconst (v := (nI 3)) hx hb dL_law_21 (by decide) ?_
  refine lv_isub hx hb dL_law_22 ?_
  refine lv_icmp_gt (tgt := 640) hx hb dL_law_23 (by decide) (fun c_1 => ?_) (fun c_1 => ?_)
  · exact lx_end l I0.1 hS
  · exact absurd (by decide) c_1

set_option maxHeartbeats 4000000 in
set_option maxRecDepth 100000 in
theorem lx_16_1 {p : Program} {e : Env} {s : State} {m : MethodId} {below : List Frame} {meth : Method} {c : Code} (l : Launch) {b : Nat} {xs : Nat → Int32} {G : va_G} {g : Nat → ClassId} {t0 : Nat → Nat} {H : Heap} {locs : List Loc} {ls : Array Slot} (I : lx_I p s m meth c b xs 1 G g t0 H locs) (hl : lv_has ls 4 [(2, .ref (s.heap.size + 827)), (1, .ref s.heap.size), (0, .ref b)]) : W p l e room_1 s m #[Value.ref b] below meth c H locs 837 12239 (lw_Z below #[Value.ref b] s) (F0 m 16 ls []) := by
  have I0 := I
  obtain ⟨⟨hx, hb, hr, hml, hown, htb, hX, hbl, hlocks, hgv⟩, hK, hst, hnw, hS, hB, hR, hz⟩ := I
  have hts : ∀ w ∈ wsL_law, w.before #[Value.ref b] s = true := fun w h => htb w (wsL_law_in w h)
  have hbA : ¬ (fun q => s.heap.size ≤ q) b := Nat.not_le.mpr hbl
  refine lv_iconst (v := (nI 0)) hx hb dL_law_16 (by decide) ?_
  refine lv_istore_n (lv' := [(3, .int (nI 0)), (2, .ref (s.heap.size + 827)), (1, .ref s.heap.size), (0, .ref b)]) hx hb dL_law_17 rfl hl (by decide) rfl (fun ls hl => ?_)
  refine lv_iload_n hx hb dL_law_18 rfl (lv_at hl 0 rfl) ?_
  refine lv_aload_n hx hb dL_law_19 rfl (lv_at hl 3 rfl) ?_
  refine va_slen hx hb hX hbl hbA hS dL_law_20 ?_
  refine lv_iconst (v := (nI 3)) hx hb dL_law_21 (by decide) ?_
  refine lv_isub hx hb dL_law_22 ?_
  refine lv_icmp_gt (tgt := 640) hx hb dL_law_23 (by decide) (fun c_1 => ?_) (fun c_1 => ?_)
  · exact lx_end l I0.1 hS
  · exact absurd (by decide) c_1

set_option maxHeartbeats 4000000 in
set_option maxRecDepth 100000 in
theorem lx_16_2 {p : Program} {e : Env} {s : State} {m : MethodId} {below : List Frame} {meth : Method} {c : Code} (l : Launch) {b : Nat} {xs : Nat → Int32} {G : va_G} {g : Nat → ClassId} {t0 : Nat → Nat} {H : Heap} {locs : List Loc} {ls : Array Slot} (I : lx_I p s m meth c b xs 2 G g t0 H locs) (hl : lv_has ls 4 [(2, .ref (s.heap.size + 827)), (1, .ref s.heap.size), (0, .ref b)]) : W p l e room_1 s m #[Value.ref b] below meth c H locs 837 12239 (lw_Z below #[Value.ref b] s) (F0 m 16 ls []) := by
  have I0 := I
  obtain ⟨⟨hx, hb, hr, hml, hown, htb, hX, hbl, hlocks, hgv⟩, hK, hst, hnw, hS, hB, hR, hz⟩ := I
  have hts : ∀ w ∈ wsL_law, w.before #[Value.ref b] s = true := fun w h => htb w (wsL_law_in w h)
  have hbA : ¬ (fun q => s.heap.size ≤ q) b := Nat.not_le.mpr hbl
  refine lv_iconst (v := (nI 0)) hx hb dL_law_16 (by decide) ?_
  refine lv_istore_n (lv' := [(3, .int (nI 0)), (2, .ref (s.heap.size + 827)), (1, .ref s.heap.size), (0, .ref b)]) hx hb dL_law_17 rfl hl (by decide) rfl (fun ls hl => ?_)
  refine lv_iload_n hx hb dL_law_18 rfl (lv_at hl 0 rfl) ?_
  refine lv_aload_n hx hb dL_law_19 rfl (lv_at hl 3 rfl) ?_
  refine va_slen hx hb hX hbl hbA hS dL_law_20 ?_
  refine lv_iconst (v := (nI 3)) hx hb dL_law_21 (by decide) ?_
  refine lv_isub hx hb dL_law_22 ?_
  refine lv_icmp_gt (tgt := 640) hx hb dL_law_23 (by decide) (fun c_1 => ?_) (fun c_1 => ?_)
  · exact lx_end l I0.1 hS
  · exact absurd (by decide) c_1

set_option maxHeartbeats 4000000 in
set_option maxRecDepth 100000 in
theorem lx_16_3 {p : Program} {e : Env} {s : State} {m : MethodId} {below : List Frame} {meth : Method} {c : Code} (l : Launch) {b : Nat} {xs : Nat → Int32} {G : va_G} {g : Nat → ClassId} {t0 : Nat → Nat} {H : Heap} {locs : List Loc} {ls : Array Slot} (I : lx_I p s m meth c b xs 3 G g t0 H locs) (hl : lv_has ls 4 [(2, .ref (s.heap.size + 827)), (1, .ref s.heap.size), (0, .ref b)]) : W p l e room_1 s m #[Value.ref b] below meth c H locs 837 12239 (lw_Z below #[Value.ref b] s) (F0 m 16 ls []) := by
  have I0 := I
  obtain ⟨⟨hx, hb, hr, hml, hown, htb, hX, hbl, hlocks, hgv⟩, hK, hst, hnw, hS, hB, hR, hz⟩ := I
  have hts : ∀ w ∈ wsL_law, w.before #[Value.ref b] s = true := fun w h => htb w (wsL_law_in w h)
  have hbA : ¬ (fun q => s.heap.size ≤ q) b := Nat.not_le.mpr hbl
  obtain ⟨v0, hv0⟩ : ∃ v, v = xs (nI 0).toNatClampNeg := ⟨_, rfl⟩
  refine lv_iconst (v := (nI 0)) hx hb dL_law_16 (by decide) ?_
  refine lv_istore_n (lv' := [(3, .int (nI 0)), (2, .ref (s.heap.size + 827)), (1, .ref s.heap.size), (0, .ref b)]) hx hb dL_law_17 rfl hl (by decide) rfl (fun ls hl => ?_)
  refine lv_iload_n hx hb dL_law_18 rfl (lv_at hl 0 rfl) ?_
  refine lv_aload_n hx hb dL_law_19 rfl (lv_at hl 3 rfl) ?_
  refine va_slen hx hb hX hbl hbA hS dL_law_20 ?_
  refine lv_iconst (v := (nI 3)) hx hb dL_law_21 (by decide) ?_
  refine lv_isub hx hb dL_law_22 ?_
  refine lv_icmp_gt (tgt := 640) hx hb dL_law_23 (by decide) (fun c_1 => ?_) (fun c_1 => ?_)
  · exact absurd c_1 (by decide)
  · refine lv_aload_n hx hb dL_law_26 rfl (lv_at hl 3 rfl) ?_
    refine lv_iload_n hx hb dL_law_27 rfl (lv_at hl 0 rfl) ?_
    refine va_sld hx hb hX hbl hbA hS (i := (nI 0)) (by unfold vp_in; decide) dL_law_28 ?_
    rw [← hv0]
    refine lv_bipush (v := (nI 31)) hx hb dL_law_29 (by decide) ?_
    refine lv_iand hx hb dL_law_31 ?_
    obtain ⟨v9, hv9⟩ : ∃ v, v = (v0 &&& (nI 31)) := ⟨_, rfl⟩
    rw [← hv9]
    rcases pk_ix v9 (n := 20) (by omega) with hlo | hhi | ⟨k, hk, hk9⟩
    · refine lv_tableOut (tgt := 634) hx hb dL_law_32 (xi_tlo hlo rfl) (by decide) ?_
      exact lx_634 l I0.1 hS hl
    · refine lv_tableOut (tgt := 634) hx hb dL_law_32 (xi_thi hhi (by decide) rfl) (by decide) ?_
      exact lx_634 l I0.1 hS hl
    · rw [hk9]
      rcases (show k = 0 ∨ k = 1 ∨ k = 2 ∨ k = 3 ∨ k = 4 ∨ k = 5 ∨ k = 6 ∨ k = 7 ∨ k = 8 ∨ k = 9 ∨ k = 10 ∨ k = 11 ∨ k = 12 ∨ k = 13 ∨ k = 14 ∨ k = 15 ∨ k = 16 ∨ k = 17 ∨ k = 18 ∨ k = 19 by omega) with rfl | rfl | rfl | rfl | rfl | rfl | rfl | rfl | rfl | rfl | rfl | rfl | rfl | rfl | rfl | rfl | rfl | rfl | rfl | rfl
      · refine lv_tableIn (off := 96) (tgt := 128) hx hb dL_law_32 (by decide) (by decide) (by decide) (by decide) ?_
        exact lx_0 l I0 hl (fun H locs ls hS hl => lx_634 l I0.1 hS hl)
      · refine lv_tableIn (off := 129) (tgt := 161) hx hb dL_law_32 (by decide) (by decide) (by decide) (by decide) ?_
        exact lx_1 l I0 hl (fun H locs ls hS hl => lx_634 l I0.1 hS hl)
      · refine lv_tableIn (off := 178) (tgt := 210) hx hb dL_law_32 (by decide) (by decide) (by decide) (by decide) ?_
        exact lx_2 l I0 hl (fun H locs ls hS hl => lx_634 l I0.1 hS hl)
      · refine lv_tableIn (off := 211) (tgt := 243) hx hb dL_law_32 (by decide) (by decide) (by decide) (by decide) ?_
        exact lx_3 l I0 hl (fun H locs ls hS hl => lx_634 l I0.1 hS hl)
      · refine lv_tableIn (off := 234) (tgt := 266) hx hb dL_law_32 (by decide) (by decide) (by decide) (by decide) ?_
        exact lx_4 l I0 hl (fun H locs ls hS hl => lx_634 l I0.1 hS hl)
      · refine lv_tableIn (off := 247) (tgt := 279) hx hb dL_law_32 (by decide) (by decide) (by decide) (by decide) ?_
        exact lx_5 l I0 hl (fun H locs ls hS hl => lx_634 l I0.1 hS hl)
      · refine lv_tableIn (off := 270) (tgt := 302) hx hb dL_law_32 (by decide) (by decide) (by decide) (by decide) ?_
        exact lx_6 l I0 hl (fun H locs ls hS hl => lx_634 l I0.1 hS hl)
      · refine lv_tableIn (off := 293) (tgt := 325) hx hb dL_law_32 (by decide) (by decide) (by decide) (by decide) ?_
        exact lx_7 l I0 hl (fun H locs ls hS hl => lx_634 l I0.1 hS hl)
      · refine lv_tableIn (off := 326) (tgt := 358) hx hb dL_law_32 (by decide) (by decide) (by decide) (by decide) ?_
        exact lx_8 l I0 hl (fun H locs ls hS hl => lx_634 l I0.1 hS hl)
      · refine lv_tableIn (off := 359) (tgt := 391) hx hb dL_law_32 (by decide) (by decide) (by decide) (by decide) ?_
        exact lx_9 l I0 hl (fun H locs ls hS hl => lx_634 l I0.1 hS hl)
      · refine lv_tableIn (off := 382) (tgt := 414) hx hb dL_law_32 (by decide) (by decide) (by decide) (by decide) ?_
        exact lx_10 l I0 hl (fun H locs ls hS hl => lx_634 l I0.1 hS hl)
      · refine lv_tableIn (off := 405) (tgt := 437) hx hb dL_law_32 (by decide) (by decide) (by decide) (by decide) ?_
        exact lx_11 l I0 hl (fun H locs ls hS hl => lx_634 l I0.1 hS hl)
      · refine lv_tableIn (off := 438) (tgt := 470) hx hb dL_law_32 (by decide) (by decide) (by decide) (by decide) ?_
        exact lx_12 l I0 hl (fun H locs ls hS hl => lx_634 l I0.1 hS hl)
      · refine lv_tableIn (off := 451) (tgt := 483) hx hb dL_law_32 (by decide) (by decide) (by decide) (by decide) ?_
        exact lx_13 l I0 hl (fun H locs ls hS hl => lx_634 l I0.1 hS hl)
      · refine lv_tableIn (off := 464) (tgt := 496) hx hb dL_law_32 (by decide) (by decide) (by decide) (by decide) ?_
        exact lx_14 l I0 hl (fun H locs ls hS hl => lx_634 l I0.1 hS hl)
      · refine lv_tableIn (off := 517) (tgt := 549) hx hb dL_law_32 (by decide) (by decide) (by decide) (by decide) ?_
        exact lx_15 l I0 hl (fun H locs ls hS hl => lx_634 l I0.1 hS hl)
      · refine lv_tableIn (off := 530) (tgt := 562) hx hb dL_law_32 (by decide) (by decide) (by decide) (by decide) ?_
        exact lx_16 l I0 hl (fun H locs ls hS hl => lx_634 l I0.1 hS hl)
      · refine lv_tableIn (off := 543) (tgt := 575) hx hb dL_law_32 (by decide) (by decide) (by decide) (by decide) ?_
        exact lx_17 l I0 hl (fun H locs ls hS hl => lx_634 l I0.1 hS hl)
      · refine lv_tableIn (off := 556) (tgt := 588) hx hb dL_law_32 (by decide) (by decide) (by decide) (by decide) ?_
        exact lx_18 l I0 hl (fun H locs ls hS hl => lx_634 l I0.1 hS hl)
      · refine lv_tableIn (off := 579) (tgt := 611) hx hb dL_law_32 (by decide) (by decide) (by decide) (by decide) ?_
        exact lx_19 l I0 hl (fun H locs ls hS hl => lx_634 l I0.1 hS hl)
