/-! THE LAW: up, cell -/

set_option maxHeartbeats 4000000 in
set_option maxRecDepth 100000 in
/-- up(v, n) -/
theorem c_L_up (l : Launch) {G : va_G} {g : Nat → ClassId} {t0 τ : Nat → Nat} {A : Nat → Prop} (O : xk_O τ A) (M : xm_T) (v : Int32) {n : Nat} (h0 : 0 < n) (hn : n < 2 ^ 31) : Met l yL_up wsL_up ({ frames := 0, cells := 0, slots := 0, locals := 0 }) (va_Pc [.int v, .int (nI n)] (xS_t G g t0 τ A M)) (va_Qi (fun r M' => r = nI (zu_u v n) ∧ M' = M) (fun M' t => xw_D G g τ M' t.heap) A) 0 0 A := by
  refine Met.ofW (cc := cL_up) (maxL := 2) (ret := (some .int)) (by decide) rfl ?_
  intro p e s m args below meth c s₁ B hml hv
  obtain ⟨rfl, hW, hK, hst, hnw⟩ := hv
  have hx := B.exec
  have hb := B.bytes
  have hr := B.returns
  have hts := atoms_spec (ws := wsL_up) B.pre
  have hown : s.vm.findClass RL = some m.cls := findClass_of_methodNamed B.named
  have hlocks := B.notSynchronized
  have hS : va_S A s.heap s.heap [] := va_S.rf
  have hl := lv_entry ([.int v, .int (nI n)]) (n := 2) (Nat.le_of_ble_eq_true rfl)
  rw [lg_entry_eq]
  generalize (lg_sl ([.int v, .int (nI n)]) ++ List.replicate (2 - (lg_sl ([.int v, .int (nI n)])).length) Slot.unset).toArray = ls at hl ⊢
  have hl : lv_has ls 2 [(0, .int v), (1, .int (nI n))] := hl
  refine lv_iload_n hx hb dL_up_0 rfl (lv_at hl 0 rfl) ?_
  refine lv_ldc (v := (nI 2147483647)) hx hb hown (hts (.constant RL 8 (2147483647)) (List.mem_of_getElem? (i := 1) (by decide +kernel))) dL_up_1 ?_
  refine lv_iand hx hb dL_up_3 ?_
  refine lv_iload_n hx hb dL_up_4 rfl (lv_at hl 1 rfl) ?_
  refine lv_irem hx hb dL_up_5 (nI_ne0 h0 hn) ?_
  exact W.iret (v := ((v &&& (nI 2147483647)) - (v &&& (nI 2147483647)) / (nI n) * (nI n))) hx hb hr (fun t ht hWm => ⟨⟨((v &&& (nI 2147483647)) - (v &&& (nI 2147483647)) / (nI n) * (nI n)), M, rfl, ⟨zu_up v h0 hn, rfl⟩, xw_end ht hW⟩, hS.F ht⟩) hS.2.2 dL_up_6

set_option maxHeartbeats 4000000 in
set_option maxRecDepth 100000 in
/-- cell(s, k) -/
theorem c_L_cell (l : Launch) {G : va_G} {g : Nat → ClassId} {t0 τ : Nat → Nat} {A : Nat → Prop} (O : xk_O τ A) (M : xm_T) {y L k : Nat} {xs : Nat → Int32} (hL : L ≤ 260) (hk : k < 2 ^ 31) : Met l yL_cell wsL_cell ({ frames := 0, cells := 0, slots := 0, locals := 0 }) (va_Pc [.ref y, .int (nI k)] (fun U => xS_t G g t0 τ A M U ∧ va_X y L xs U U.heap ∧ y < U.heap.size ∧ ¬ A y)) (va_Qi (fun _ M' => M' = M) (fun M' t => xw_D G g τ M' t.heap) A) 0 0 A := by
  refine Met.ofW (cc := cL_cell) (maxL := 2) (ret := (some .int)) (by decide) rfl ?_
  intro p e s m args below meth c s₁ B hml hv
  obtain ⟨rfl, ⟨hW, hK, hst, hnw⟩, hX, hbl, hbA⟩ := hv
  have hx := B.exec
  have hb := B.bytes
  have hr := B.returns
  have hts := atoms_spec (ws := wsL_cell) B.pre
  have hown : s.vm.findClass RL = some m.cls := findClass_of_methodNamed B.named
  have hlocks := B.notSynchronized
  have hS : va_S A s.heap s.heap [] := va_S.rf
  have hl := lv_entry ([.ref y, .int (nI k)]) (n := 2) (Nat.le_of_ble_eq_true rfl)
  rw [lg_entry_eq]
  generalize (lg_sl ([.ref y, .int (nI k)]) ++ List.replicate (2 - (lg_sl ([.ref y, .int (nI k)])).length) Slot.unset).toArray = ls at hl ⊢
  have hl : lv_has ls 2 [(0, .ref y), (1, .int (nI k))] := hl
  refine lv_iload_n hx hb dL_cell_0 rfl (lv_at hl 1 rfl) ?_
  refine lv_aload_n hx hb dL_cell_1 rfl (lv_at hl 0 rfl) ?_
  refine va_slen hx hb hX hbl hbA hS dL_cell_2 ?_
  refine lv_icmp_ge (tgt := 12) hx hb dL_cell_3 (by decide) (fun c_1 => ?_) (fun c_1 => ?_)
  · refine lv_ldc (v := (nI 2143413209)) hx hb hown (hts (.constant RL 7 (2143413209)) (List.mem_of_getElem? (i := 1) (by decide +kernel))) dL_cell_12 ?_
    refine lv_iload_n hx hb dL_cell_14 rfl (lv_at hl 1 rfl) ?_
    refine lv_sipush (v := (nI 1459)) hx hb dL_cell_15 (by decide) ?_
    refine lv_iadd hx hb dL_cell_18 ?_
    refine lv_imul hx hb dL_cell_19 ?_
    exact W.iret (v := ((nI 2143413209) * ((nI k) + (nI 1459)))) hx hb hr (fun t ht hWm => ⟨⟨((nI 2143413209) * ((nI k) + (nI 1459))), M, rfl, rfl, xw_end ht hW⟩, hS.F ht⟩) hS.2.2 dL_cell_20
  · refine lv_aload_n hx hb dL_cell_6 rfl (lv_at hl 0 rfl) ?_
    refine lv_iload_n hx hb dL_cell_7 rfl (lv_at hl 1 rfl) ?_
    refine va_sld hx hb hX hbl hbA hS (i := (nI k)) (xi_in rfl (by rcases Nat.lt_or_ge k L with q | q; exact q; exact absurd (nI_le q (by omega)) c_1) (by omega)) dL_cell_8 ?_
    refine lv_goto (tgt := 20) hx hb dL_cell_9 (by decide) ?_
    exact W.iret (v := (xs (nI k).toNatClampNeg)) hx hb hr (fun t ht hWm => ⟨⟨(xs (nI k).toNatClampNeg), M, rfl, rfl, xw_end ht hW⟩, hS.F ht⟩) hS.2.2 dL_cell_20

/-- a call of cell -/
theorem xr_X {p : Program} {l : Launch} {e : Env} {R : Room} {s : State} {m : MethodId} {args : Array Value} {below : List Frame} {meth : Method} {c : Code} {H : Heap} {locs : List Loc} {cells slots : Nat} {cc : ByteArray} {pc : Nat} {ls : Array Slot} {rest : List Value} {G : va_G} {g : Nat → ClassId} {t0 τ : Nat → Nat} {A : Nat → Prop} {M : xm_T}
    {y : MethodName} {bytes : ByteArray} {maxL nL n index b L : Nat} {xs : Nat → Int32} {ret : Option FieldType} {ws : List Cond} {rm : Room} {Qc : Array Value → State → Outcome → State → Prop} {Ts : List Cond} {own : String} {As st : List Value}
    (S : CallFix p m c cc nL s args Ts own) (hM : Met l y ws rm (va_Pc As (fun U => xS_t G g t0 τ A M U ∧ va_X b L xs U U.heap ∧ b < U.heap.size ∧ ¬ A b)) Qc 0 0 A) (cw : CallB R s args own index y bytes maxL ret ws rm 0 0 n ∧ (Cond.static y).before args s = true) (hK : va_K G vwCl (xw_tys g) s) (hst : xw_st t0 A s s.heap) (hnw : xw_nw g s) (hS : va_S A s.heap H locs) (hW : xw_D G g τ M H) (hX : va_X b L xs s s.heap) (hbl : b < s.heap.size) (hbA : ¬ A b)
    (hn : As.length = n) (hsize : ls.size = nL) (hstack : st = As.reverse ++ rest) (hWd : (rest.map fun v => v.category).sum ≤ 8) (hdg : decode cc pc = .ok (.invokestatic index, 3)) (hf : cells ≤ R.cells ∧ slots ≤ R.slots) :
    va_Run p l e R s m args below meth c H locs cells slots 0 0 (F0 m pc ls st) rest (Qc As.toArray) A :=
  va_runS S hM cw ⟨fun _ _ _ _ h => ⟨h.1, xS_call h.2.1, va_X.moved (Vm.Alike.refl _) h.2.2.1, h.2.2.2⟩, fun U hU hWm => ⟨rfl, xS_mk hK hst hnw hS hW hU hWm, va_X.moved hWm.alike (by rw [hU]; exact hX.kept (hS.2.1 b hbl hbA)), by rw [hU]; exact Nat.lt_of_lt_of_le hbl hS.1, hbA⟩⟩ rfl hn hsize hstack (lv_room hWd) hdg hf
