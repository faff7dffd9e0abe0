theorem xk_iast {p : Program} {l : Launch} {e : Env} {R : Room} {s : State} {m : MethodId} {args : Array Value} {below : List Frame} {meth : Method} {c : Code} {H : Heap} {locs : List Loc} {cells slots : Nat} {Q : State → Prop} {cc : ByteArray} {pc : Nat} {ls : Array Slot} {rest : List Value} {G : va_G} {g : Nat → ClassId} {A' : Nat → Prop} {a : Nat} {H0 : Heap} (hexec : p.tables.exec = Jvm.exec) (hb : c.code = cc) (hK : va_K G vwCl (xw_tys g) s) (hS : va_S A' H0 H locs) {n : Nat} {f : Nat → Int32} (hat : va_at G vwCl (a, .inl (g 0, n, .inl f)) H) (hA : A' a) {i x : Int32} (k : Nat) (hi : i = nI k) (hk : k < n) (hn : n < 2 ^ 31) (hdg : decode cc pc = .ok (.iastore, 1))
    (kk : ∀ (H1 : Heap) (locs1 : List Loc), va_at G vwCl (a, .inl (g 0, n, .inl (upd f k x))) H1 → H1.size = H.size → (∀ q, q ≠ a → H1[q]? = H[q]?) → va_S A' H0 H1 locs1 → W p l e R s m args below meth c H1 locs1 cells slots Q (F0 m (pc + 1) ls rest)) : W p l e R s m args below meth c H locs cells slots Q (F0 m pc ls (.int x :: .int i :: .ref a :: rest)) := by
  subst hi
  have hcl : (nI k).toNatClampNeg = k := nI_clamp (by omega)
  refine W.iast hexec hb hat ((hK.2 0 _ rfl).1 n (fun j => .int (f j))) (fun q => by cases q) (by show ¬ (_ < 0 ∨ (arrV _ _ _).slots.size ≤ _); rw [arrV_size]; exact xi_in rfl hk hn) rfl rfl hdg fun H1 e z oq => ?_
  refine kk H1 _ ?_ z oq (hS.put z oq hA)
  show H1[a]? = some (vp_cell _ _)
  rw [e, hcl]
  rw [vp_cell_i, vp_cell_i, arrV_store]
  congr 2
  funext q
  by_cases hq : q = k
  · subst hq
    simp [updV, upd]
  · simp [updV, upd, hq]
theorem xm_end {f : Nat → Int32} (h : ∀ j, j < 26 → f j = xm_al j) (h2 : ∀ j, 26 ≤ j → f j = nI 0) : f = xm_al := by
  funext j
  by_cases hj : j < 26
  · exact h j hj
  · rw [h2 j (by omega), xm_0 (Or.inr (by omega))]
theorem xm_ups {f : Nat → Int32} {k : Nat} {v : Int32} (hk : k < 26) (h : ∀ j, 26 ≤ j → f j = nI 0) : ∀ j, 26 ≤ j → upd f k v j = nI 0 := fun j hj => by
  unfold upd
  rw [if_neg (by omega)]
  exact h j hj
/-- a new model -/
def xk_R (G : va_G) (g : Nat → ClassId) (x : Nat) (H : Heap) : Prop := va_at G vwCl (x, .inr (7, [.ref (x + 1), .ref (x + 2), .ref (x + 3), .int (nI 0), .ref (x + 4), .ref (x + 5), .ref (x + 6), .ref (x + 7), .int (nI 0), .ref (x + 8), .ref (x + 9), .int (nI 0)])) H ∧ va_at G vwCl (x + 1, .inl (g 0, 326, .inl xm_al)) H ∧ va_at G vwCl (x + 2, .inl (g 0, 326, .inl (fun _ => nI 0))) H ∧ va_at G vwCl (x + 3, .inl (g 0, 1956, .inl (fun _ => nI 0))) H ∧ va_at G vwCl (x + 4, .inl (g 0, 652, .inl (fun _ => nI 0))) H ∧
  va_at G vwCl (x + 5, .inl (g 0, 2, .inl (fun _ => nI 0))) H ∧ va_at G vwCl (x + 6, .inl (g 0, 24, .inl (fun _ => nI 0))) H ∧ va_at G vwCl (x + 7, .inl (g 0, 60, .inl (fun _ => nI 0))) H ∧ va_at G vwCl (x + 8, .inl (g 0, 30, .inl (fun _ => nI 0))) H ∧ va_at G vwCl (x + 9, .inl (g 0, 30, .inl (fun _ => nI 0))) H

set_option maxHeartbeats 4000000 in
set_option maxRecDepth 100000 in
/-- HalfTicketsModel() -/
theorem k_X7_init (l : Launch) {G : va_G} {g : Nat → ClassId} {t0 : Nat → Nat} {A : Nat → Prop} {h sz : Nat} (hh : h + 1 = sz) (hAA : ∀ q, xA_k h sz q → A q)  : Met l yX7_init wsX7_init ({ frames := 1, cells := 9, slots := 3406, locals := 30 }) (va_Pc [.ref h] (xK_p G g t0 A sz h 7 [.null, .null, .null, .int 0, .null, .null, .null, .null, .int 0, .null, .null, .int 0])) (va_Qv (fun _ : Unit => True) (fun _ t => t.heap.size = sz + 9 ∧ xk_R G g h t.heap) (xA_k h sz)) 9 3406 (xA_k h sz) := by
  subst hh
  refine Met.ofW (cc := cX7_init) (maxL := 2) (ret := none) (by decide) rfl ?_
  intro p e s m args below meth c s₁ B hml hv
  obtain ⟨rfl, hz, fa_0, hK, hst, hnw⟩ := hv
  have hx := B.exec
  have hb := B.bytes
  have hr := B.returns
  have hts := atoms_spec (ws := wsX7_init) B.pre
  have hown : s.vm.findClass RX7 = some m.cls := findClass_of_methodNamed B.named
  have hlocks := B.notSynchronized
  have hin : meth.name = "<init>" := (name_of_methodNamed B.named B.method).1
  have hS : va_S (xA_k h (h + 1)) s.heap s.heap [] := va_S.rf
  have hAh : xA_k h (h + 1) h := Or.inl rfl
  have inX7 : ∀ w ∈ u_ws RX7 TX7 12, w ∈ wsX7_init := by decide +kernel
  have hl := lv_entry ([.ref h]) (n := 2) (Nat.le_of_ble_eq_true rfl)
  rw [lg_entry_eq]
  generalize (lg_sl ([.ref h]) ++ List.replicate (2 - (lg_sl ([.ref h])).length) Slot.unset).toArray = ls at hl ⊢
  have hl : lv_has ls 2 [(0, .ref h)] := hl
  refine lv_aload_n hx hb dX7_init_0 rfl (lv_at hl 0 rfl) ?_
  refine W.objInit hx hb hown (hts (.methodLink RX7 1 objectInit) (List.mem_of_getElem? (i := 1) (by decide +kernel))) (hts (.instanceMethod objectInit) (List.mem_of_getElem? (i := 2) (by decide +kernel))) (hts (.code objectInit ⟨#[0xb1]⟩ 1 none) (List.mem_of_getElem? (i := 3) (by decide +kernel))) rfl (by rw [hml]; exact hl.1) rfl dX7_init_1 (Nat.le_of_ble_eq_true rfl) (Nat.le_of_ble_eq_true rfl) ?_
  refine W.eq (g2 := F0 m 4 ls []) rfl ?_
  refine lv_aload_n hx hb dX7_init_4 rfl (lv_at hl 0 rfl) ?_
  refine lv_sipush (v := (nI 326)) hx hb dX7_init_5 (by decide) ?_
  refine xk_newa (atype := .int) (h := (h + 1)) (N := 326) hx hb (hts (.arrayClass .int) (List.mem_of_getElem? (i := 4) (by decide +kernel))) (hK.2 0 _ rfl).2 hS hz rfl (by decide) (Nat.le_of_ble_eq_true rfl) (by decide +kernel) (by decide +kernel) dX7_init_8 (fun H fa_1 hz9 ho hS => ?_)
  replace hz := hz9
  clear hz9
  have fa_1 : va_at G vwCl ((h + 1), .inl (g 0, 326, .inl (fun _ => nI 0))) H := fa_1
  replace fa_0 := va_at.kept fa_0 (ho h (by omega))
  clear ho
  refine xk_putF (ci := 7) (v := .ref (h + 1)) (ty := .array .int) (C := RX7) (T := TX7) (N := 12) hx hb hts inX7 tyX7 tyX7_ok nmX7 hown hK hS fa_0 hAh rfl 0 (by decide) (hts (.fieldLink RX7 7 "HalfTicketsModel" "all" "[I") (List.mem_of_getElem? (i := 5) (by decide +kernel))) (fun _ h9 => h9) rfl hin rfl (by decide +kernel) rfl rfl (Nat.le_of_ble_eq_true rfl) dX7_init_10 (fun H locs fa_0 hz9 ho hS => ?_)
  replace hz := hz9.trans hz
  clear hz9
  have fa_0 : va_at G vwCl (h, .inr (7, [.ref (h + 1), .null, .null, .int 0, .null, .null, .null, .null, .int 0, .null, .null, .int 0])) H := fa_0
  replace fa_1 := va_at.kept fa_1 (ho (h + 1) (by omega))
  clear ho
  refine lv_aload_n hx hb dX7_init_13 rfl (lv_at hl 0 rfl) ?_
  refine lv_sipush (v := (nI 326)) hx hb dX7_init_14 (by decide) ?_
  refine xk_newa (atype := .int) (h := (h + 2)) (N := 326) hx hb (hts (.arrayClass .int) (List.mem_of_getElem? (i := 4) (by decide +kernel))) (hK.2 0 _ rfl).2 hS hz rfl (by decide) (Nat.le_of_ble_eq_true rfl) (by decide +kernel) (by decide +kernel) dX7_init_17 (fun H fa_2 hz9 ho hS => ?_)
  replace hz := hz9
  clear hz9
  have fa_2 : va_at G vwCl ((h + 2), .inl (g 0, 326, .inl (fun _ => nI 0))) H := fa_2
  replace fa_0 := va_at.kept fa_0 (ho h (by omega))
  replace fa_1 := va_at.kept fa_1 (ho (h + 1) (by omega))
  clear ho
  refine xk_putF (ci := 7) (v := .ref (h + 2)) (ty := .array .int) (C := RX7) (T := TX7) (N := 12) hx hb hts inX7 tyX7 tyX7_ok nmX7 hown hK hS fa_0 hAh rfl 1 (by decide) (hts (.fieldLink RX7 13 "HalfTicketsModel" "kept" "[I") (List.mem_of_getElem? (i := 6) (by decide +kernel))) (fun _ h9 => h9) rfl hin rfl (by decide +kernel) rfl rfl (Nat.le_of_ble_eq_true rfl) dX7_init_19 (fun H locs fa_0 hz9 ho hS => ?_)
  replace hz := hz9.trans hz
  clear hz9
  have fa_0 : va_at G vwCl (h, .inr (7, [.ref (h + 1), .ref (h + 2), .null, .int 0, .null, .null, .null, .null, .int 0, .null, .null, .int 0])) H := fa_0
  replace fa_1 := va_at.kept fa_1 (ho (h + 1) (by omega))
  replace fa_2 := va_at.kept fa_2 (ho (h + 2) (by omega))
  clear ho
  refine lv_aload_n hx hb dX7_init_22 rfl (lv_at hl 0 rfl) ?_
  refine lv_sipush (v := (nI 1956)) hx hb dX7_init_23 (by decide) ?_
  refine xk_newa (atype := .int) (h := (h + 3)) (N := 1956) hx hb (hts (.arrayClass .int) (List.mem_of_getElem? (i := 4) (by decide +kernel))) (hK.2 0 _ rfl).2 hS hz rfl (by decide) (Nat.le_of_ble_eq_true rfl) (by decide +kernel) (by decide +kernel) dX7_init_26 (fun H fa_3 hz9 ho hS => ?_)
  replace hz := hz9
  clear hz9
  have fa_3 : va_at G vwCl ((h + 3), .inl (g 0, 1956, .inl (fun _ => nI 0))) H := fa_3
  replace fa_0 := va_at.kept fa_0 (ho h (by omega))
  replace fa_1 := va_at.kept fa_1 (ho (h + 1) (by omega))
  replace fa_2 := va_at.kept fa_2 (ho (h + 2) (by omega))
  clear ho
  refine xk_putF (ci := 7) (v := .ref (h + 3)) (ty := .array .int) (C := RX7) (T := TX7) (N := 12) hx hb hts inX7 tyX7 tyX7_ok nmX7 hown hK hS fa_0 hAh rfl 2 (by decide) (hts (.fieldLink RX7 16 "HalfTicketsModel" "history" "[I") (List.mem_of_getElem? (i := 7) (by decide +kernel))) (fun _ h9 => h9) rfl hin rfl (by decide +kernel) rfl rfl (Nat.le_of_ble_eq_true rfl) dX7_init_28 (fun H locs fa_0 hz9 ho hS => ?_)
  replace hz := hz9.trans hz
  clear hz9
  have fa_0 : va_at G vwCl (h, .inr (7, [.ref (h + 1), .ref (h + 2), .ref (h + 3), .int 0, .null, .null, .null, .null, .int 0, .null, .null, .int 0])) H := fa_0
  replace fa_1 := va_at.kept fa_1 (ho (h + 1) (by omega))
  replace fa_2 := va_at.kept fa_2 (ho (h + 2) (by omega))
  replace fa_3 := va_at.kept fa_3 (ho (h + 3) (by omega))
  clear ho
  refine lv_aload_n hx hb dX7_init_31 rfl (lv_at hl 0 rfl) ?_
  refine lv_sipush (v := (nI 652)) hx hb dX7_init_32 (by decide) ?_
  refine xk_newa (atype := .int) (h := (h + 4)) (N := 652) hx hb (hts (.arrayClass .int) (List.mem_of_getElem? (i := 4) (by decide +kernel))) (hK.2 0 _ rfl).2 hS hz rfl (by decide) (Nat.le_of_ble_eq_true rfl) (by decide +kernel) (by decide +kernel) dX7_init_35 (fun H fa_4 hz9 ho hS => ?_)
  replace hz := hz9
  clear hz9
  have fa_4 : va_at G vwCl ((h + 4), .inl (g 0, 652, .inl (fun _ => nI 0))) H := fa_4
  replace fa_0 := va_at.kept fa_0 (ho h (by omega))
  replace fa_1 := va_at.kept fa_1 (ho (h + 1) (by omega))
  replace fa_2 := va_at.kept fa_2 (ho (h + 2) (by omega))
  replace fa_3 := va_at.kept fa_3 (ho (h + 3) (by omega))
  clear ho
  refine xk_putF (ci := 7) (v := .ref (h + 4)) (ty := .array .int) (C := RX7) (T := TX7) (N := 12) hx hb hts inX7 tyX7 tyX7_ok nmX7 hown hK hS fa_0 hAh rfl 4 (by decide) (hts (.fieldLink RX7 19 "HalfTicketsModel" "slots" "[I") (List.mem_of_getElem? (i := 8) (by decide +kernel))) (fun _ h9 => h9) rfl hin rfl (by decide +kernel) rfl rfl (Nat.le_of_ble_eq_true rfl) dX7_init_37 (fun H locs fa_0 hz9 ho hS => ?_)
  replace hz := hz9.trans hz
  clear hz9
  have fa_0 : va_at G vwCl (h, .inr (7, [.ref (h + 1), .ref (h + 2), .ref (h + 3), .int 0, .ref (h + 4), .null, .null, .null, .int 0, .null, .null, .int 0])) H := fa_0
  replace fa_1 := va_at.kept fa_1 (ho (h + 1) (by omega))
  replace fa_2 := va_at.kept fa_2 (ho (h + 2) (by omega))
  replace fa_3 := va_at.kept fa_3 (ho (h + 3) (by omega))
  replace fa_4 := va_at.kept fa_4 (ho (h + 4) (by omega))
  clear ho
  refine lv_aload_n hx hb dX7_init_40 rfl (lv_at hl 0 rfl) ?_
  refine lv_iconst (v := (nI 2)) hx hb dX7_init_41 (by decide) ?_
  refine xk_newa (atype := .int) (h := (h + 5)) (N := 2) hx hb (hts (.arrayClass .int) (List.mem_of_getElem? (i := 4) (by decide +kernel))) (hK.2 0 _ rfl).2 hS hz rfl (by decide) (Nat.le_of_ble_eq_true rfl) (by decide +kernel) (by decide +kernel) dX7_init_42 (fun H fa_5 hz9 ho hS => ?_)
  replace hz := hz9
  clear hz9
  have fa_5 : va_at G vwCl ((h + 5), .inl (g 0, 2, .inl (fun _ => nI 0))) H := fa_5
  replace fa_0 := va_at.kept fa_0 (ho h (by omega))
  replace fa_1 := va_at.kept fa_1 (ho (h + 1) (by omega))
  replace fa_2 := va_at.kept fa_2 (ho (h + 2) (by omega))
  replace fa_3 := va_at.kept fa_3 (ho (h + 3) (by omega))
  replace fa_4 := va_at.kept fa_4 (ho (h + 4) (by omega))
  clear ho
  refine xk_putF (ci := 7) (v := .ref (h + 5)) (ty := .array .int) (C := RX7) (T := TX7) (N := 12) hx hb hts inX7 tyX7 tyX7_ok nmX7 hown hK hS fa_0 hAh rfl 5 (by decide) (hts (.fieldLink RX7 22 "HalfTicketsModel" "isSaved" "[I") (List.mem_of_getElem? (i := 9) (by decide +kernel))) (fun _ h9 => h9) rfl hin rfl (by decide +kernel) rfl rfl (Nat.le_of_ble_eq_true rfl) dX7_init_44 (fun H locs fa_0 hz9 ho hS => ?_)
  replace hz := hz9.trans hz
  clear hz9
  have fa_0 : va_at G vwCl (h, .inr (7, [.ref (h + 1), .ref (h + 2), .ref (h + 3), .int 0, .ref (h + 4), .ref (h + 5), .null, .null, .int 0, .null, .null, .int 0])) H := fa_0
  replace fa_1 := va_at.kept fa_1 (ho (h + 1) (by omega))
  replace fa_2 := va_at.kept fa_2 (ho (h + 2) (by omega))
  replace fa_3 := va_at.kept fa_3 (ho (h + 3) (by omega))
  replace fa_4 := va_at.kept fa_4 (ho (h + 4) (by omega))
  replace fa_5 := va_at.kept fa_5 (ho (h + 5) (by omega))
  clear ho
  refine lv_aload_n hx hb dX7_init_47 rfl (lv_at hl 0 rfl) ?_
  refine lv_bipush (v := (nI 24)) hx hb dX7_init_48 (by decide) ?_
  refine xk_newa (atype := .int) (h := (h + 6)) (N := 24) hx hb (hts (.arrayClass .int) (List.mem_of_getElem? (i := 4) (by decide +kernel))) (hK.2 0 _ rfl).2 hS hz rfl (by decide) (Nat.le_of_ble_eq_true rfl) (by decide +kernel) (by decide +kernel) dX7_init_50 (fun H fa_6 hz9 ho hS => ?_)
  replace hz := hz9
  clear hz9
  have fa_6 : va_at G vwCl ((h + 6), .inl (g 0, 24, .inl (fun _ => nI 0))) H := fa_6
  replace fa_0 := va_at.kept fa_0 (ho h (by omega))
  replace fa_1 := va_at.kept fa_1 (ho (h + 1) (by omega))
  replace fa_2 := va_at.kept fa_2 (ho (h + 2) (by omega))
  replace fa_3 := va_at.kept fa_3 (ho (h + 3) (by omega))
  replace fa_4 := va_at.kept fa_4 (ho (h + 4) (by omega))
  replace fa_5 := va_at.kept fa_5 (ho (h + 5) (by omega))
  clear ho
  refine xk_putF (ci := 7) (v := .ref (h + 6)) (ty := .array .int) (C := RX7) (T := TX7) (N := 12) hx hb hts inX7 tyX7 tyX7_ok nmX7 hown hK hS fa_0 hAh rfl 6 (by decide) (hts (.fieldLink RX7 25 "HalfTicketsModel" "came" "[I") (List.mem_of_getElem? (i := 10) (by decide +kernel))) (fun _ h9 => h9) rfl hin rfl (by decide +kernel) rfl rfl (Nat.le_of_ble_eq_true rfl) dX7_init_52 (fun H locs fa_0 hz9 ho hS => ?_)
  replace hz := hz9.trans hz
  clear hz9
  have fa_0 : va_at G vwCl (h, .inr (7, [.ref (h + 1), .ref (h + 2), .ref (h + 3), .int 0, .ref (h + 4), .ref (h + 5), .ref (h + 6), .null, .int 0, .null, .null, .int 0])) H := fa_0
  replace fa_1 := va_at.kept fa_1 (ho (h + 1) (by omega))
  replace fa_2 := va_at.kept fa_2 (ho (h + 2) (by omega))
  replace fa_3 := va_at.kept fa_3 (ho (h + 3) (by omega))
  replace fa_4 := va_at.kept fa_4 (ho (h + 4) (by omega))
  replace fa_5 := va_at.kept fa_5 (ho (h + 5) (by omega))
  replace fa_6 := va_at.kept fa_6 (ho (h + 6) (by omega))
  clear ho
  refine lv_aload_n hx hb dX7_init_55 rfl (lv_at hl 0 rfl) ?_
  refine lv_bipush (v := (nI 60)) hx hb dX7_init_56 (by decide) ?_
  refine xk_newa (atype := .int) (h := (h + 7)) (N := 60) hx hb (hts (.arrayClass .int) (List.mem_of_getElem? (i := 4) (by decide +kernel))) (hK.2 0 _ rfl).2 hS hz rfl (by decide) (Nat.le_of_ble_eq_true rfl) (by decide +kernel) (by decide +kernel) dX7_init_58 (fun H fa_7 hz9 ho hS => ?_)
  replace hz := hz9
  clear hz9
  have fa_7 : va_at G vwCl ((h + 7), .inl (g 0, 60, .inl (fun _ => nI 0))) H := fa_7
  replace fa_0 := va_at.kept fa_0 (ho h (by omega))
  replace fa_1 := va_at.kept fa_1 (ho (h + 1) (by omega))
  replace fa_2 := va_at.kept fa_2 (ho (h + 2) (by omega))
  replace fa_3 := va_at.kept fa_3 (ho (h + 3) (by omega))
  replace fa_4 := va_at.kept fa_4 (ho (h + 4) (by omega))
  replace fa_5 := va_at.kept fa_5 (ho (h + 5) (by omega))
  replace fa_6 := va_at.kept fa_6 (ho (h + 6) (by omega))
  clear ho
  refine xk_putF (ci := 7) (v := .ref (h + 7)) (ty := .array .int) (C := RX7) (T := TX7) (N := 12) hx hb hts inX7 tyX7 tyX7_ok nmX7 hown hK hS fa_0 hAh rfl 7 (by decide) (hts (.fieldLink RX7 28 "HalfTicketsModel" "text" "[I") (List.mem_of_getElem? (i := 11) (by decide +kernel))) (fun _ h9 => h9) rfl hin rfl (by decide +kernel) rfl rfl (Nat.le_of_ble_eq_true rfl) dX7_init_60 (fun H locs fa_0 hz9 ho hS => ?_)
  replace hz := hz9.trans hz
  clear hz9
  have fa_0 : va_at G vwCl (h, .inr (7, [.ref (h + 1), .ref (h + 2), .ref (h + 3), .int 0, .ref (h + 4), .ref (h + 5), .ref (h + 6), .ref (h + 7), .int 0, .null, .null, .int 0])) H := fa_0
  replace fa_1 := va_at.kept fa_1 (ho (h + 1) (by omega))
  replace fa_2 := va_at.kept fa_2 (ho (h + 2) (by omega))
  replace fa_3 := va_at.kept fa_3 (ho (h + 3) (by omega))
  replace fa_4 := va_at.kept fa_4 (ho (h + 4) (by omega))
  replace fa_5 := va_at.kept fa_5 (ho (h + 5) (by omega))
  replace fa_6 := va_at.kept fa_6 (ho (h + 6) (by omega))
  replace fa_7 := va_at.kept fa_7 (ho (h + 7) (by omega))
  clear ho
  refine lv_aload_n hx hb dX7_init_63 rfl (lv_at hl 0 rfl) ?_
  refine lv_bipush (v := (nI 30)) hx hb dX7_init_64 (by decide) ?_
  refine xk_newa (atype := .int) (h := (h + 8)) (N := 30) hx hb (hts (.arrayClass .int) (List.mem_of_getElem? (i := 4) (by decide +kernel))) (hK.2 0 _ rfl).2 hS hz rfl (by decide) (Nat.le_of_ble_eq_true rfl) (by decide +kernel) (by decide +kernel) dX7_init_66 (fun H fa_8 hz9 ho hS => ?_)
  replace hz := hz9
  clear hz9
  have fa_8 : va_at G vwCl ((h + 8), .inl (g 0, 30, .inl (fun _ => nI 0))) H := fa_8
  replace fa_0 := va_at.kept fa_0 (ho h (by omega))
  replace fa_1 := va_at.kept fa_1 (ho (h + 1) (by omega))
  replace fa_2 := va_at.kept fa_2 (ho (h + 2) (by omega))
  replace fa_3 := va_at.kept fa_3 (ho (h + 3) (by omega))
  replace fa_4 := va_at.kept fa_4 (ho (h + 4) (by omega))
  replace fa_5 := va_at.kept fa_5 (ho (h + 5) (by omega))
  replace fa_6 := va_at.kept fa_6 (ho (h + 6) (by omega))
  replace fa_7 := va_at.kept fa_7 (ho (h + 7) (by omega))
  clear ho
  refine xk_putF (ci := 7) (v := .ref (h + 8)) (ty := .array .int) (C := RX7) (T := TX7) (N := 12) hx hb hts inX7 tyX7 tyX7_ok nmX7 hown hK hS fa_0 hAh rfl 9 (by decide) (hts (.fieldLink RX7 31 "HalfTicketsModel" "errands" "[I") (List.mem_of_getElem? (i := 12) (by decide +kernel))) (fun _ h9 => h9) rfl hin rfl (by decide +kernel) rfl rfl (Nat.le_of_ble_eq_true rfl) dX7_init_68 (fun H locs fa_0 hz9 ho hS => ?_)
  replace hz := hz9.trans hz
  clear hz9
  have fa_0 : va_at G vwCl (h, .inr (7, [.ref (h + 1), .ref (h + 2), .ref (h + 3), .int 0, .ref (h + 4), .ref (h + 5), .ref (h + 6), .ref (h + 7), .int 0, .ref (h + 8), .null, .int 0])) H := fa_0
  replace fa_1 := va_at.kept fa_1 (ho (h + 1) (by omega))
  replace fa_2 := va_at.kept fa_2 (ho (h + 2) (by omega))
  replace fa_3 := va_at.kept fa_3 (ho (h + 3) (by omega))
  replace fa_4 := va_at.kept fa_4 (ho (h + 4) (by omega))
  replace fa_5 := va_at.kept fa_5 (ho (h + 5) (by omega))
  replace fa_6 := va_at.kept fa_6 (ho (h + 6) (by omega))
  replace fa_7 := va_at.kept fa_7 (ho (h + 7) (by omega))
  replace fa_8 := va_at.kept fa_8 (ho (h + 8) (by omega))
  clear ho
  refine lv_aload_n hx hb dX7_init_71 rfl (lv_at hl 0 rfl) ?_
  refine lv_bipush (v := (nI 30)) hx hb dX7_init_72 (by decide) ?_
  refine xk_newa (atype := .int) (h := (h + 9)) (N := 30) hx hb (hts (.arrayClass .int) (List.mem_of_getElem? (i := 4) (by decide +kernel))) (hK.2 0 _ rfl).2 hS hz rfl (by decide) (Nat.le_of_ble_eq_true rfl) (by decide +kernel) (by decide +kernel) dX7_init_74 (fun H fa_9 hz9 ho hS => ?_)
  replace hz := hz9
  clear hz9
  have fa_9 : va_at G vwCl ((h + 9), .inl (g 0, 30, .inl (fun _ => nI 0))) H := fa_9
  replace fa_0 := va_at.kept fa_0 (ho h (by omega))
  replace fa_1 := va_at.kept fa_1 (ho (h + 1) (by omega))
  replace fa_2 := va_at.kept fa_2 (ho (h + 2) (by omega))
  replace fa_3 := va_at.kept fa_3 (ho (h + 3) (by omega))
  replace fa_4 := va_at.kept fa_4 (ho (h + 4) (by omega))
  replace fa_5 := va_at.kept fa_5 (ho (h + 5) (by omega))
  replace fa_6 := va_at.kept fa_6 (ho (h + 6) (by omega))
  replace fa_7 := va_at.kept fa_7 (ho (h + 7) (by omega))
  replace fa_8 := va_at.kept fa_8 (ho (h + 8) (by omega))
  clear ho
  refine xk_putF (ci := 7) (v := .ref (h + 9)) (ty := .array .int) (C := RX7) (T := TX7) (N := 12) hx hb hts inX7 tyX7 tyX7_ok nmX7 hown hK hS fa_0 hAh rfl 10 (by decide) (hts (.fieldLink RX7 34 "HalfTicketsModel" "lengths" "[I") (List.mem_of_getElem? (i := 13) (by decide +kernel))) (fun _ h9 => h9) rfl hin rfl (by decide +kernel) rfl rfl (Nat.le_of_ble_eq_true rfl) dX7_init_76 (fun H locs fa_0 hz9 ho hS => ?_)
  replace hz := hz9.trans hz
  clear hz9
  have fa_0 : va_at G vwCl (h, .inr (7, [.ref (h + 1), .ref (h + 2), .ref (h + 3), .int 0, .ref (h + 4), .ref (h + 5), .ref (h + 6), .ref (h + 7), .int 0, .ref (h + 8), .ref (h + 9), .int 0])) H := fa_0
  replace fa_1 := va_at.kept fa_1 (ho (h + 1) (by omega))
  replace fa_2 := va_at.kept fa_2 (ho (h + 2) (by omega))
  replace fa_3 := va_at.kept fa_3 (ho (h + 3) (by omega))
  replace fa_4 := va_at.kept fa_4 (ho (h + 4) (by omega))
  replace fa_5 := va_at.kept fa_5 (ho (h + 5) (by omega))
  replace fa_6 := va_at.kept fa_6 (ho (h + 6) (by omega))
  replace fa_7 := va_at.kept fa_7 (ho (h + 7) (by omega))
  replace fa_8 := va_at.kept fa_8 (ho (h + 8) (by omega))
  replace fa_9 := va_at.kept fa_9 (ho (h + 9) (by omega))
  clear ho
  refine lv_aload_n hx hb dX7_init_79 rfl (lv_at hl 0 rfl) ?_
  refine xk_get (ci := 7) (C := RX7) (T := TX7) (N := 12) hx hb hts inX7 hown hK fa_0 rfl 0 (by decide) (hts (.fieldLink RX7 7 "HalfTicketsModel" "all" "[I") (List.mem_of_getElem? (i := 5) (by decide +kernel))) (fun _ h9 => h9) rfl dX7_init_80 ?_
  refine lv_iconst (v := (nI 0)) hx hb dX7_init_83 (by decide) ?_
  refine lv_iconst (v := (nI 2)) hx hb dX7_init_84 (by decide) ?_
  refine xk_iast hx hb hK hS fa_1 (Or.inr (by omega)) 0 (by decide) (by decide) (by decide) dX7_init_85 (fun H locs fa_1 hz9 ho hS => ?_)
  replace hz := hz9.trans hz
  clear hz9
  obtain ⟨F_10, eF_10⟩ : ∃ F9, F9 = upd (fun _ => nI 0) 0 (nI 2) := ⟨_, rfl⟩
  rw [← eF_10] at fa_1
  replace fa_0 := va_at.kept fa_0 (ho h (by omega))
  replace fa_2 := va_at.kept fa_2 (ho (h + 2) (by omega))
  replace fa_3 := va_at.kept fa_3 (ho (h + 3) (by omega))
  replace fa_4 := va_at.kept fa_4 (ho (h + 4) (by omega))
  replace fa_5 := va_at.kept fa_5 (ho (h + 5) (by omega))
  replace fa_6 := va_at.kept fa_6 (ho (h + 6) (by omega))
  replace fa_7 := va_at.kept fa_7 (ho (h + 7) (by omega))
  replace fa_8 := va_at.kept fa_8 (ho (h + 8) (by omega))
  replace fa_9 := va_at.kept fa_9 (ho (h + 9) (by omega))
  clear ho
  refine lv_aload_n hx hb dX7_init_86 rfl (lv_at hl 0 rfl) ?_
  refine xk_get (ci := 7) (C := RX7) (T := TX7) (N := 12) hx hb hts inX7 hown hK fa_0 rfl 0 (by decide) (hts (.fieldLink RX7 7 "HalfTicketsModel" "all" "[I") (List.mem_of_getElem? (i := 5) (by decide +kernel))) (fun _ h9 => h9) rfl dX7_init_87 ?_
  refine lv_iconst (v := (nI 1)) hx hb dX7_init_90 (by decide) ?_
  refine lv_bipush (v := (nI 8)) hx hb dX7_init_91 (by decide) ?_
  refine xk_iast hx hb hK hS fa_1 (Or.inr (by omega)) 1 (by decide) (by decide) (by decide) dX7_init_93 (fun H locs fa_1 hz9 ho hS => ?_)
  replace hz := hz9.trans hz
  clear hz9
  obtain ⟨F_11, eF_11⟩ : ∃ F9, F9 = upd (F_10) 1 (nI 8) := ⟨_, rfl⟩
  rw [← eF_11] at fa_1
  replace fa_0 := va_at.kept fa_0 (ho h (by omega))
  replace fa_2 := va_at.kept fa_2 (ho (h + 2) (by omega))
  replace fa_3 := va_at.kept fa_3 (ho (h + 3) (by omega))
  replace fa_4 := va_at.kept fa_4 (ho (h + 4) (by omega))
  replace fa_5 := va_at.kept fa_5 (ho (h + 5) (by omega))
  replace fa_6 := va_at.kept fa_6 (ho (h + 6) (by omega))
  replace fa_7 := va_at.kept fa_7 (ho (h + 7) (by omega))
  replace fa_8 := va_at.kept fa_8 (ho (h + 8) (by omega))
  replace fa_9 := va_at.kept fa_9 (ho (h + 9) (by omega))
  clear ho
  refine lv_iconst (v := (nI 0)) hx hb dX7_init_94 (by decide) ?_
  refine lv_istore_n (lv' := [(1, .int (nI 0)), (0, .ref h)]) hx hb dX7_init_95 rfl hl (by decide) rfl (fun ls hl => ?_)
  refine lv_iload_n hx hb dX7_init_96 rfl (lv_at hl 0 rfl) ?_
  refine lv_bipush (v := (nI 6)) hx hb dX7_init_97 (by decide) ?_
  refine lv_icmp_ge (tgt := 139) hx hb dX7_init_99 (by decide) (fun c_12 => ?_) (fun c_12 => ?_)
  · exact absurd c_12 (by decide)
  · refine lv_aload_n hx hb dX7_init_102 rfl (lv_at hl 1 rfl) ?_
    refine xk_get (ci := 7) (C := RX7) (T := TX7) (N := 12) hx hb hts inX7 hown hK fa_0 rfl 0 (by decide) (hts (.fieldLink RX7 7 "HalfTicketsModel" "all" "[I") (List.mem_of_getElem? (i := 5) (by decide +kernel))) (fun _ h9 => h9) rfl dX7_init_103 ?_
    refine lv_bipush (v := (nI 8)) hx hb dX7_init_106 (by decide) ?_
    refine lv_iload_n hx hb dX7_init_108 rfl (lv_at hl 0 rfl) ?_
    refine lv_iadd hx hb dX7_init_109 ?_
    refine lv_iconst (v := (nI 1)) hx hb dX7_init_110 (by decide) ?_
    refine xk_iast hx hb hK hS fa_1 (Or.inr (by omega)) 8 (by decide) (by decide) (by decide) dX7_init_111 (fun H locs fa_1 hz9 ho hS => ?_)
    replace hz := hz9.trans hz
    clear hz9
    obtain ⟨F_13, eF_13⟩ : ∃ F9, F9 = upd (F_11) 8 (nI 1) := ⟨_, rfl⟩
    rw [← eF_13] at fa_1
    replace fa_0 := va_at.kept fa_0 (ho h (by omega))
    replace fa_2 := va_at.kept fa_2 (ho (h + 2) (by omega))
    replace fa_3 := va_at.kept fa_3 (ho (h + 3) (by omega))
    replace fa_4 := va_at.kept fa_4 (ho (h + 4) (by omega))
    replace fa_5 := va_at.kept fa_5 (ho (h + 5) (by omega))
    replace fa_6 := va_at.kept fa_6 (ho (h + 6) (by omega))
    replace fa_7 := va_at.kept fa_7 (ho (h + 7) (by omega))
    replace fa_8 := va_at.kept fa_8 (ho (h + 8) (by omega))
    replace fa_9 := va_at.kept fa_9 (ho (h + 9) (by omega))
    clear ho
    refine lv_aload_n hx hb dX7_init_112 rfl (lv_at hl 1 rfl) ?_
    refine xk_get (ci := 7) (C := RX7) (T := TX7) (N := 12) hx hb hts inX7 hown hK fa_0 rfl 0 (by decide) (hts (.fieldLink RX7 7 "HalfTicketsModel" "all" "[I") (List.mem_of_getElem? (i := 5) (by decide +kernel))) (fun _ h9 => h9) rfl dX7_init_113 ?_
    refine lv_bipush (v := (nI 14)) hx hb dX7_init_116 (by decide) ?_
    refine lv_iload_n hx hb dX7_init_118 rfl (lv_at hl 0 rfl) ?_
    refine lv_iadd hx hb dX7_init_119 ?_
    refine lv_iconst (v := (nI 1)) hx hb dX7_init_120 (by decide) ?_
    refine xk_iast hx hb hK hS fa_1 (Or.inr (by omega)) 14 (by decide) (by decide) (by decide) dX7_init_121 (fun H locs fa_1 hz9 ho hS => ?_)
    replace hz := hz9.trans hz
    clear hz9
    obtain ⟨F_14, eF_14⟩ : ∃ F9, F9 = upd (F_13) 14 (nI 1) := ⟨_, rfl⟩
    rw [← eF_14] at fa_1
    replace fa_0 := va_at.kept fa_0 (ho h (by omega))
    replace fa_2 := va_at.kept fa_2 (ho (h + 2) (by omega))
    replace fa_3 := va_at.kept fa_3 (ho (h + 3) (by omega))
    replace fa_4 := va_at.kept fa_4 (ho (h + 4) (by omega))
    replace fa_5 := va_at.kept fa_5 (ho (h + 5) (by omega))
    replace fa_6 := va_at.kept fa_6 (ho (h + 6) (by omega))
    replace fa_7 := va_at.kept fa_7 (ho (h + 7) (by omega))
    replace fa_8 := va_at.kept fa_8 (ho (h + 8) (by omega))
    replace fa_9 := va_at.kept fa_9 (ho (h + 9) (by omega))
    clear ho
    refine lv_aload_n hx hb dX7_init_122 rfl (lv_at hl 1 rfl) ?_
    refine xk_get (ci := 7) (C := RX7) (T := TX7) (N := 12) hx hb hts inX7 hown hK fa_0 rfl 0 (by decide) (hts (.fieldLink RX7 7 "HalfTicketsModel" "all" "[I") (List.mem_of_getElem? (i := 5) (by decide +kernel))) (fun _ h9 => h9) rfl dX7_init_123 ?_
    refine lv_bipush (v := (nI 20)) hx hb dX7_init_126 (by decide) ?_
    refine lv_iload_n hx hb dX7_init_128 rfl (lv_at hl 0 rfl) ?_
    refine lv_iadd hx hb dX7_init_129 ?_
    refine lv_bipush (v := (nI 8)) hx hb dX7_init_130 (by decide) ?_
    refine xk_iast hx hb hK hS fa_1 (Or.inr (by omega)) 20 (by decide) (by decide) (by decide) dX7_init_132 (fun H locs fa_1 hz9 ho hS => ?_)
    replace hz := hz9.trans hz
    clear hz9
    obtain ⟨F_15, eF_15⟩ : ∃ F9, F9 = upd (F_14) 20 (nI 8) := ⟨_, rfl⟩
    rw [← eF_15] at fa_1
    replace fa_0 := va_at.kept fa_0 (ho h (by omega))
    replace fa_2 := va_at.kept fa_2 (ho (h + 2) (by omega))
    replace fa_3 := va_at.kept fa_3 (ho (h + 3) (by omega))
    replace fa_4 := va_at.kept fa_4 (ho (h + 4) (by omega))
    replace fa_5 := va_at.kept fa_5 (ho (h + 5) (by omega))
    replace fa_6 := va_at.kept fa_6 (ho (h + 6) (by omega))
    replace fa_7 := va_at.kept fa_7 (ho (h + 7) (by omega))
    replace fa_8 := va_at.kept fa_8 (ho (h + 8) (by omega))
    replace fa_9 := va_at.kept fa_9 (ho (h + 9) (by omega))
    clear ho
    refine lv_iinc (v := (nI 1)) (lv' := [(1, .int (nI 1)), (0, .ref h)]) hx hb dX7_init_133 hl (k := 0) rfl (rfl) (by decide) rfl (fun ls hl => ?_)
    refine lv_goto (tgt := 96) hx hb dX7_init_136 (by decide) ?_
    refine lv_iload_n hx hb dX7_init_96 rfl (lv_at hl 0 rfl) ?_
    refine lv_bipush (v := (nI 6)) hx hb dX7_init_97 (by decide) ?_
    refine lv_icmp_ge (tgt := 139) hx hb dX7_init_99 (by decide) (fun c_16 => ?_) (fun c_16 => ?_)
    · exact absurd c_16 (by decide)
    · refine lv_aload_n hx hb dX7_init_102 rfl (lv_at hl 1 rfl) ?_
      refine xk_get (ci := 7) (C := RX7) (T := TX7) (N := 12) hx hb hts inX7 hown hK fa_0 rfl 0 (by decide) (hts (.fieldLink RX7 7 "HalfTicketsModel" "all" "[I") (List.mem_of_getElem? (i := 5) (by decide +kernel))) (fun _ h9 => h9) rfl dX7_init_103 ?_
      refine lv_bipush (v := (nI 8)) hx hb dX7_init_106 (by decide) ?_
      refine lv_iload_n hx hb dX7_init_108 rfl (lv_at hl 0 rfl) ?_
      refine lv_iadd hx hb dX7_init_109 ?_
      refine lv_iconst (v := (nI 1)) hx hb dX7_init_110 (by decide) ?_
      refine xk_iast hx hb hK hS fa_1 (Or.inr (by omega)) 9 (by decide) (by decide) (by decide) dX7_init_111 (fun H locs fa_1 hz9 ho hS => ?_)
      replace hz := hz9.trans hz
      clear hz9
      obtain ⟨F_17, eF_17⟩ : ∃ F9, F9 = upd (F_15) 9 (nI 1) := ⟨_, rfl⟩
      rw [← eF_17] at fa_1
      replace fa_0 := va_at.kept fa_0 (ho h (by omega))
      replace fa_2 := va_at.kept fa_2 (ho (h + 2) (by omega))
      replace fa_3 := va_at.kept fa_3 (ho (h + 3) (by omega))
      replace fa_4 := va_at.kept fa_4 (ho (h + 4) (by omega))
      replace fa_5 := va_at.kept fa_5 (ho (h + 5) (by omega))
      replace fa_6 := va_at.kept fa_6 (ho (h + 6) (by omega))
      replace fa_7 := va_at.kept fa_7 (ho (h + 7) (by omega))
      replace fa_8 := va_at.kept fa_8 (ho (h + 8) (by omega))
      replace fa_9 := va_at.kept fa_9 (ho (h + 9) (by omega))
      clear ho
      refine lv_aload_n hx hb dX7_init_112 rfl (lv_at hl 1 rfl) ?_
      refine xk_get (ci := 7) (C := RX7) (T := TX7) (N := 12) hx hb hts inX7 hown hK fa_0 rfl 0 (by decide) (hts (.fieldLink RX7 7 "HalfTicketsModel" "all" "[I") (List.mem_of_getElem? (i := 5) (by decide +kernel))) (fun _ h9 => h9) rfl dX7_init_113 ?_
      refine lv_bipush (v := (nI 14)) hx hb dX7_init_116 (by decide) ?_
      refine lv_iload_n hx hb dX7_init_118 rfl (lv_at hl 0 rfl) ?_
      refine lv_iadd hx hb dX7_init_119 ?_
      refine lv_iconst (v := (nI 1)) hx hb dX7_init_120 (by decide) ?_
      refine xk_iast hx hb hK hS fa_1 (Or.inr (by omega)) 15 (by decide) (by decide) (by decide) dX7_init_121 (fun H locs fa_1 hz9 ho hS => ?_)
      replace hz := hz9.trans hz
      clear hz9
      obtain ⟨F_18, eF_18⟩ : ∃ F9, F9 = upd (F_17) 15 (nI 1) := ⟨_, rfl⟩
      rw [← eF_18] at fa_1
      replace fa_0 := va_at.kept fa_0 (ho h (by omega))
      replace fa_2 := va_at.kept fa_2 (ho (h + 2) (by omega))
      replace fa_3 := va_at.kept fa_3 (ho (h + 3) (by omega))
      replace fa_4 := va_at.kept fa_4 (ho (h + 4) (by omega))
      replace fa_5 := va_at.kept fa_5 (ho (h + 5) (by omega))
      replace fa_6 := va_at.kept fa_6 (ho (h + 6) (by omega))
      replace fa_7 := va_at.kept fa_7 (ho (h + 7) (by omega))
      replace fa_8 := va_at.kept fa_8 (ho (h + 8) (by omega))
      replace fa_9 := va_at.kept fa_9 (ho (h + 9) (by omega))
      clear ho
      refine lv_aload_n hx hb dX7_init_122 rfl (lv_at hl 1 rfl) ?_
      refine xk_get (ci := 7) (C := RX7) (T := TX7) (N := 12) hx hb hts inX7 hown hK fa_0 rfl 0 (by decide) (hts (.fieldLink RX7 7 "HalfTicketsModel" "all" "[I") (List.mem_of_getElem? (i := 5) (by decide +kernel))) (fun _ h9 => h9) rfl dX7_init_123 ?_
      refine lv_bipush (v := (nI 20)) hx hb dX7_init_126 (by decide) ?_
      refine lv_iload_n hx hb dX7_init_128 rfl (lv_at hl 0 rfl) ?_
      refine lv_iadd hx hb dX7_init_129 ?_
      refine lv_bipush (v := (nI 8)) hx hb dX7_init_130 (by decide) ?_
      refine xk_iast hx hb hK hS fa_1 (Or.inr (by omega)) 21 (by decide) (by decide) (by decide) dX7_init_132 (fun H locs fa_1 hz9 ho hS => ?_)
      replace hz := hz9.trans hz
      clear hz9
      obtain ⟨F_19, eF_19⟩ : ∃ F9, F9 = upd (F_18) 21 (nI 8) := ⟨_, rfl⟩
      rw [← eF_19] at fa_1
      replace fa_0 := va_at.kept fa_0 (ho h (by omega))
      replace fa_2 := va_at.kept fa_2 (ho (h + 2) (by omega))
      replace fa_3 := va_at.kept fa_3 (ho (h + 3) (by omega))
      replace fa_4 := va_at.kept fa_4 (ho (h + 4) (by omega))
      replace fa_5 := va_at.kept fa_5 (ho (h + 5) (by omega))
      replace fa_6 := va_at.kept fa_6 (ho (h + 6) (by omega))
      replace fa_7 := va_at.kept fa_7 (ho (h + 7) (by omega))
      replace fa_8 := va_at.kept fa_8 (ho (h + 8) (by omega))
      replace fa_9 := va_at.kept fa_9 (ho (h + 9) (by omega))
      clear ho
      refine lv_iinc (v := (nI 2)) (lv' := [(1, .int (nI 2)), (0, .ref h)]) hx hb dX7_init_133 hl (k := 0) rfl (rfl) (by decide) rfl (fun ls hl => ?_)
      refine lv_goto (tgt := 96) hx hb dX7_init_136 (by decide) ?_
      refine lv_iload_n hx hb dX7_init_96 rfl (lv_at hl 0 rfl) ?_
      refine lv_bipush (v := (nI 6)) hx hb dX7_init_97 (by decide) ?_
      refine lv_icmp_ge (tgt := 139) hx hb dX7_init_99 (by decide) (fun c_20 => ?_) (fun c_20 => ?_)
      · exact absurd c_20 (by decide)
      · refine lv_aload_n hx hb dX7_init_102 rfl (lv_at hl 1 rfl) ?_
        refine xk_get (ci := 7) (C := RX7) (T := TX7) (N := 12) hx hb hts inX7 hown hK fa_0 rfl 0 (by decide) (hts (.fieldLink RX7 7 "HalfTicketsModel" "all" "[I") (List.mem_of_getElem? (i := 5) (by decide +kernel))) (fun _ h9 => h9) rfl dX7_init_103 ?_
        refine lv_bipush (v := (nI 8)) hx hb dX7_init_106 (by decide) ?_
        refine lv_iload_n hx hb dX7_init_108 rfl (lv_at hl 0 rfl) ?_
        refine lv_iadd hx hb dX7_init_109 ?_
        refine lv_iconst (v := (nI 1)) hx hb dX7_init_110 (by decide) ?_
        refine xk_iast hx hb hK hS fa_1 (Or.inr (by omega)) 10 (by decide) (by decide) (by decide) dX7_init_111 (fun H locs fa_1 hz9 ho hS => ?_)
        replace hz := hz9.trans hz
        clear hz9
        obtain ⟨F_21, eF_21⟩ : ∃ F9, F9 = upd (F_19) 10 (nI 1) := ⟨_, rfl⟩
        rw [← eF_21] at fa_1
        replace fa_0 := va_at.kept fa_0 (ho h (by omega))
        replace fa_2 := va_at.kept fa_2 (ho (h + 2) (by omega))
        replace fa_3 := va_at.kept fa_3 (ho (h + 3) (by omega))
        replace fa_4 := va_at.kept fa_4 (ho (h + 4) (by omega))
        replace fa_5 := va_at.kept fa_5 (ho (h + 5) (by omega))
        replace fa_6 := va_at.kept fa_6 (ho (h + 6) (by omega))
        replace fa_7 := va_at.kept fa_7 (ho (h + 7) (by omega))
        replace fa_8 := va_at.kept fa_8 (ho (h + 8) (by omega))
        replace fa_9 := va_at.kept fa_9 (ho (h + 9) (by omega))
        clear ho
        refine lv_aload_n hx hb dX7_init_112 rfl (lv_at hl 1 rfl) ?_
        refine xk_get (ci := 7) (C := RX7) (T := TX7) (N := 12) hx hb hts inX7 hown hK fa_0 rfl 0 (by decide) (hts (.fieldLink RX7 7 "HalfTicketsModel" "all" "[I") (List.mem_of_getElem? (i := 5) (by decide +kernel))) (fun _ h9 => h9) rfl dX7_init_113 ?_
        refine lv_bipush (v := (nI 14)) hx hb dX7_init_116 (by decide) ?_
        refine lv_iload_n hx hb dX7_init_118 rfl (lv_at hl 0 rfl) ?_
        refine lv_iadd hx hb dX7_init_119 ?_
        refine lv_iconst (v := (nI 1)) hx hb dX7_init_120 (by decide) ?_
        refine xk_iast hx hb hK hS fa_1 (Or.inr (by omega)) 16 (by decide) (by decide) (by decide) dX7_init_121 (fun H locs fa_1 hz9 ho hS => ?_)
        replace hz := hz9.trans hz
        clear hz9
        obtain ⟨F_22, eF_22⟩ : ∃ F9, F9 = upd (F_21) 16 (nI 1) := ⟨_, rfl⟩
        rw [← eF_22] at fa_1
        replace fa_0 := va_at.kept fa_0 (ho h (by omega))
        replace fa_2 := va_at.kept fa_2 (ho (h + 2) (by omega))
        replace fa_3 := va_at.kept fa_3 (ho (h + 3) (by omega))
        replace fa_4 := va_at.kept fa_4 (ho (h + 4) (by omega))
        replace fa_5 := va_at.kept fa_5 (ho (h + 5) (by omega))
        replace fa_6 := va_at.kept fa_6 (ho (h + 6) (by omega))
        replace fa_7 := va_at.kept fa_7 (ho (h + 7) (by omega))
        replace fa_8 := va_at.kept fa_8 (ho (h + 8) (by omega))
        replace fa_9 := va_at.kept fa_9 (ho (h + 9) (by omega))
        clear ho
        refine lv_aload_n hx hb dX7_init_122 rfl (lv_at hl 1 rfl) ?_
        refine xk_get (ci := 7) (C := RX7) (T := TX7) (N := 12) hx hb hts inX7 hown hK fa_0 rfl 0 (by decide) (hts (.fieldLink RX7 7 "HalfTicketsModel" "all" "[I") (List.mem_of_getElem? (i := 5) (by decide +kernel))) (fun _ h9 => h9) rfl dX7_init_123 ?_
        refine lv_bipush (v := (nI 20)) hx hb dX7_init_126 (by decide) ?_
        refine lv_iload_n hx hb dX7_init_128 rfl (lv_at hl 0 rfl) ?_
        refine lv_iadd hx hb dX7_init_129 ?_
        refine lv_bipush (v := (nI 8)) hx hb dX7_init_130 (by decide) ?_
        refine xk_iast hx hb hK hS fa_1 (Or.inr (by omega)) 22 (by decide) (by decide) (by decide) dX7_init_132 (fun H locs fa_1 hz9 ho hS => ?_)
        replace hz := hz9.trans hz
        clear hz9
        obtain ⟨F_23, eF_23⟩ : ∃ F9, F9 = upd (F_22) 22 (nI 8) := ⟨_, rfl⟩
        rw [← eF_23] at fa_1
        replace fa_0 := va_at.kept fa_0 (ho h (by omega))
        replace fa_2 := va_at.kept fa_2 (ho (h + 2) (by omega))
        replace fa_3 := va_at.kept fa_3 (ho (h + 3) (by omega))
        replace fa_4 := va_at.kept fa_4 (ho (h + 4) (by omega))
        replace fa_5 := va_at.kept fa_5 (ho (h + 5) (by omega))
        replace fa_6 := va_at.kept fa_6 (ho (h + 6) (by omega))
        replace fa_7 := va_at.kept fa_7 (ho (h + 7) (by omega))
        replace fa_8 := va_at.kept fa_8 (ho (h + 8) (by omega))
        replace fa_9 := va_at.kept fa_9 (ho (h + 9) (by omega))
        clear ho
        refine lv_iinc (v := (nI 3)) (lv' := [(1, .int (nI 3)), (0, .ref h)]) hx hb dX7_init_133 hl (k := 0) rfl (rfl) (by decide) rfl (fun ls hl => ?_)
        refine lv_goto (tgt := 96) hx hb dX7_init_136 (by decide) ?_
        refine lv_iload_n hx hb dX7_init_96 rfl (lv_at hl 0 rfl) ?_
        refine lv_bipush (v := (nI 6)) hx hb dX7_init_97 (by decide) ?_
        refine lv_icmp_ge (tgt := 139) hx hb dX7_init_99 (by decide) (fun c_24 => ?_) (fun c_24 => ?_)
        · exact absurd c_24 (by decide)
        · refine lv_aload_n hx hb dX7_init_102 rfl (lv_at hl 1 rfl) ?_
          refine xk_get (ci := 7) (C := RX7) (T := TX7) (N := 12) hx hb hts inX7 hown hK fa_0 rfl 0 (by decide) (hts (.fieldLink RX7 7 "HalfTicketsModel" "all" "[I") (List.mem_of_getElem? (i := 5) (by decide +kernel))) (fun _ h9 => h9) rfl dX7_init_103 ?_
          refine lv_bipush (v := (nI 8)) hx hb dX7_init_106 (by decide) ?_
          refine lv_iload_n hx hb dX7_init_108 rfl (lv_at hl 0 rfl) ?_
          refine lv_iadd hx hb dX7_init_109 ?_
          refine lv_iconst (v := (nI 1)) hx hb dX7_init_110 (by decide) ?_
          refine xk_iast hx hb hK hS fa_1 (Or.inr (by omega)) 11 (by decide) (by decide) (by decide) dX7_init_111 (fun H locs fa_1 hz9 ho hS => ?_)
          replace hz := hz9.trans hz
          clear hz9
          obtain ⟨F_25, eF_25⟩ : ∃ F9, F9 = upd (F_23) 11 (nI 1) := ⟨_, rfl⟩
          rw [← eF_25] at fa_1
          replace fa_0 := va_at.kept fa_0 (ho h (by omega))
          replace fa_2 := va_at.kept fa_2 (ho (h + 2) (by omega))
          replace fa_3 := va_at.kept fa_3 (ho (h + 3) (by omega))
          replace fa_4 := va_at.kept fa_4 (ho (h + 4) (by omega))
          replace fa_5 := va_at.kept fa_5 (ho (h + 5) (by omega))
          replace fa_6 := va_at.kept fa_6 (ho (h + 6) (by omega))
          replace fa_7 := va_at.kept fa_7 (ho (h + 7) (by omega))
          replace fa_8 := va_at.kept fa_8 (ho (h + 8) (by omega))
          replace fa_9 := va_at.kept fa_9 (ho (h + 9) (by omega))
          clear ho
          refine lv_aload_n hx hb dX7_init_112 rfl (lv_at hl 1 rfl) ?_
          refine xk_get (ci := 7) (C := RX7) (T := TX7) (N := 12) hx hb hts inX7 hown hK fa_0 rfl 0 (by decide) (hts (.fieldLink RX7 7 "HalfTicketsModel" "all" "[I") (List.mem_of_getElem? (i := 5) (by decide +kernel))) (fun _ h9 => h9) rfl dX7_init_113 ?_
          refine lv_bipush (v := (nI 14)) hx hb dX7_init_116 (by decide) ?_
          refine lv_iload_n hx hb dX7_init_118 rfl (lv_at hl 0 rfl) ?_
          refine lv_iadd hx hb dX7_init_119 ?_
          refine lv_iconst (v := (nI 1)) hx hb dX7_init_120 (by decide) ?_
          refine xk_iast hx hb hK hS fa_1 (Or.inr (by omega)) 17 (by decide) (by decide) (by decide) dX7_init_121 (fun H locs fa_1 hz9 ho hS => ?_)
          replace hz := hz9.trans hz
          clear hz9
          obtain ⟨F_26, eF_26⟩ : ∃ F9, F9 = upd (F_25) 17 (nI 1) := ⟨_, rfl⟩
          rw [← eF_26] at fa_1
          replace fa_0 := va_at.kept fa_0 (ho h (by omega))
          replace fa_2 := va_at.kept fa_2 (ho (h + 2) (by omega))
          replace fa_3 := va_at.kept fa_3 (ho (h + 3) (by omega))
          replace fa_4 := va_at.kept fa_4 (ho (h + 4) (by omega))
          replace fa_5 := va_at.kept fa_5 (ho (h + 5) (by omega))
          replace fa_6 := va_at.kept fa_6 (ho (h + 6) (by omega))
          replace fa_7 := va_at.kept fa_7 (ho (h + 7) (by omega))
          replace fa_8 := va_at.kept fa_8 (ho (h + 8) (by omega))
          replace fa_9 := va_at.kept fa_9 (ho (h + 9) (by omega))
          clear ho
          refine lv_aload_n hx hb dX7_init_122 rfl (lv_at hl 1 rfl) ?_
          refine xk_get (ci := 7) (C := RX7) (T := TX7) (N := 12) hx hb hts inX7 hown hK fa_0 rfl 0 (by decide) (hts (.fieldLink RX7 7 "HalfTicketsModel" "all" "[I") (List.mem_of_getElem? (i := 5) (by decide +kernel))) (fun _ h9 => h9) rfl dX7_init_123 ?_
          refine lv_bipush (v := (nI 20)) hx hb dX7_init_126 (by decide) ?_
          refine lv_iload_n hx hb dX7_init_128 rfl (lv_at hl 0 rfl) ?_
          refine lv_iadd hx hb dX7_init_129 ?_
          refine lv_bipush (v := (nI 8)) hx hb dX7_init_130 (by decide) ?_
          refine xk_iast hx hb hK hS fa_1 (Or.inr (by omega)) 23 (by decide) (by decide) (by decide) dX7_init_132 (fun H locs fa_1 hz9 ho hS => ?_)
          replace hz := hz9.trans hz
          clear hz9
          obtain ⟨F_27, eF_27⟩ : ∃ F9, F9 = upd (F_26) 23 (nI 8) := ⟨_, rfl⟩
          rw [← eF_27] at fa_1
          replace fa_0 := va_at.kept fa_0 (ho h (by omega))
          replace fa_2 := va_at.kept fa_2 (ho (h + 2) (by omega))
          replace fa_3 := va_at.kept fa_3 (ho (h + 3) (by omega))
          replace fa_4 := va_at.kept fa_4 (ho (h + 4) (by omega))
          replace fa_5 := va_at.kept fa_5 (ho (h + 5) (by omega))
          replace fa_6 := va_at.kept fa_6 (ho (h + 6) (by omega))
          replace fa_7 := va_at.kept fa_7 (ho (h + 7) (by omega))
          replace fa_8 := va_at.kept fa_8 (ho (h + 8) (by omega))
          replace fa_9 := va_at.kept fa_9 (ho (h + 9) (by omega))
          clear ho
          refine lv_iinc (v := (nI 4)) (lv' := [(1, .int (nI 4)), (0, .ref h)]) hx hb dX7_init_133 hl (k := 0) rfl (rfl) (by decide) rfl (fun ls hl => ?_)
          refine lv_goto (tgt := 96) hx hb dX7_init_136 (by decide) ?_
          refine lv_iload_n hx hb dX7_init_96 rfl (lv_at hl 0 rfl) ?_
          refine lv_bipush (v := (nI 6)) hx hb dX7_init_97 (by decide) ?_
          refine lv_icmp_ge (tgt := 139) hx hb dX7_init_99 (by decide) (fun c_28 => ?_) (fun c_28 => ?_)
          · exact absurd c_28 (by decide)
          · refine lv_aload_n hx hb dX7_init_102 rfl (lv_at hl 1 rfl) ?_
            refine xk_get (ci := 7) (C := RX7) (T := TX7) (N := 12) hx hb hts inX7 hown hK fa_0 rfl 0 (by decide) (hts (.fieldLink RX7 7 "HalfTicketsModel" "all" "[I") (List.mem_of_getElem? (i := 5) (by decide +kernel))) (fun _ h9 => h9) rfl dX7_init_103 ?_
            refine lv_bipush (v := (nI 8)) hx hb dX7_init_106 (by decide) ?_
            refine lv_iload_n hx hb dX7_init_108 rfl (lv_at hl 0 rfl) ?_
            refine lv_iadd hx hb dX7_init_109 ?_
            refine lv_iconst (v := (nI 1)) hx hb dX7_init_110 (by decide) ?_
            refine xk_iast hx hb hK hS fa_1 (Or.inr (by omega)) 12 (by decide) (by decide) (by decide) dX7_init_111 (fun H locs fa_1 hz9 ho hS => ?_)
            replace hz := hz9.trans hz
            clear hz9
            obtain ⟨F_29, eF_29⟩ : ∃ F9, F9 = upd (F_27) 12 (nI 1) := ⟨_, rfl⟩
            rw [← eF_29] at fa_1
            replace fa_0 := va_at.kept fa_0 (ho h (by omega))
            replace fa_2 := va_at.kept fa_2 (ho (h + 2) (by omega))
            replace fa_3 := va_at.kept fa_3 (ho (h + 3) (by omega))
            replace fa_4 := va_at.kept fa_4 (ho (h + 4) (by omega))
            replace fa_5 := va_at.kept fa_5 (ho (h + 5) (by omega))
            replace fa_6 := va_at.kept fa_6 (ho (h + 6) (by omega))
            replace fa_7 := va_at.kept fa_7 (ho (h + 7) (by omega))
            replace fa_8 := va_at.kept fa_8 (ho (h + 8) (by omega))
            replace fa_9 := va_at.kept fa_9 (ho (h + 9) (by omega))
            clear ho
            refine lv_aload_n hx hb dX7_init_112 rfl (lv_at hl 1 rfl) ?_
            refine xk_get (ci := 7) (C := RX7) (T := TX7) (N := 12) hx hb hts inX7 hown hK fa_0 rfl 0 (by decide) (hts (.fieldLink RX7 7 "HalfTicketsModel" "all" "[I") (List.mem_of_getElem? (i := 5) (by decide +kernel))) (fun _ h9 => h9) rfl dX7_init_113 ?_
            refine lv_bipush (v := (nI 14)) hx hb dX7_init_116 (by decide) ?_
            refine lv_iload_n hx hb dX7_init_118 rfl (lv_at hl 0 rfl) ?_
            refine lv_iadd hx hb dX7_init_119 ?_
            refine lv_iconst (v := (nI 1)) hx hb dX7_init_120 (by decide) ?_
            refine xk_iast hx hb hK hS fa_1 (Or.inr (by omega)) 18 (by decide) (by decide) (by decide) dX7_init_121 (fun H locs fa_1 hz9 ho hS => ?_)
            replace hz := hz9.trans hz
            clear hz9
            obtain ⟨F_30, eF_30⟩ : ∃ F9, F9 = upd (F_29) 18 (nI 1) := ⟨_, rfl⟩
            rw [← eF_30] at fa_1
            replace fa_0 := va_at.kept fa_0 (ho h (by omega))
            replace fa_2 := va_at.kept fa_2 (ho (h + 2) (by omega))
            replace fa_3 := va_at.kept fa_3 (ho (h + 3) (by omega))
            replace fa_4 := va_at.kept fa_4 (ho (h + 4) (by omega))
            replace fa_5 := va_at.kept fa_5 (ho (h + 5) (by omega))
            replace fa_6 := va_at.kept fa_6 (ho (h + 6) (by omega))
            replace fa_7 := va_at.kept fa_7 (ho (h + 7) (by omega))
            replace fa_8 := va_at.kept fa_8 (ho (h + 8) (by omega))
            replace fa_9 := va_at.kept fa_9 (ho (h + 9) (by omega))
            clear ho
            refine lv_aload_n hx hb dX7_init_122 rfl (lv_at hl 1 rfl) ?_
            refine xk_get (ci := 7) (C := RX7) (T := TX7) (N := 12) hx hb hts inX7 hown hK fa_0 rfl 0 (by decide) (hts (.fieldLink RX7 7 "HalfTicketsModel" "all" "[I") (List.mem_of_getElem? (i := 5) (by decide +kernel))) (fun _ h9 => h9) rfl dX7_init_123 ?_
            refine lv_bipush (v := (nI 20)) hx hb dX7_init_126 (by decide) ?_
            refine lv_iload_n hx hb dX7_init_128 rfl (lv_at hl 0 rfl) ?_
            refine lv_iadd hx hb dX7_init_129 ?_
            refine lv_bipush (v := (nI 8)) hx hb dX7_init_130 (by decide) ?_
            refine xk_iast hx hb hK hS fa_1 (Or.inr (by omega)) 24 (by decide) (by decide) (by decide) dX7_init_132 (fun H locs fa_1 hz9 ho hS => ?_)
            replace hz := hz9.trans hz
            clear hz9
            obtain ⟨F_31, eF_31⟩ : ∃ F9, F9 = upd (F_30) 24 (nI 8) := ⟨_, rfl⟩
            rw [← eF_31] at fa_1
            replace fa_0 := va_at.kept fa_0 (ho h (by omega))
            replace fa_2 := va_at.kept fa_2 (ho (h + 2) (by omega))
            replace fa_3 := va_at.kept fa_3 (ho (h + 3) (by omega))
            replace fa_4 := va_at.kept fa_4 (ho (h + 4) (by omega))
            replace fa_5 := va_at.kept fa_5 (ho (h + 5) (by omega))
            replace fa_6 := va_at.kept fa_6 (ho (h + 6) (by omega))
            replace fa_7 := va_at.kept fa_7 (ho (h + 7) (by omega))
            replace fa_8 := va_at.kept fa_8 (ho (h + 8) (by omega))
            replace fa_9 := va_at.kept fa_9 (ho (h + 9) (by omega))
            clear ho
            refine lv_iinc (v := (nI 5)) (lv' := [(1, .int (nI 5)), (0, .ref h)]) hx hb dX7_init_133 hl (k := 0) rfl (rfl) (by decide) rfl (fun ls hl => ?_)
            refine lv_goto (tgt := 96) hx hb dX7_init_136 (by decide) ?_
            refine lv_iload_n hx hb dX7_init_96 rfl (lv_at hl 0 rfl) ?_
            refine lv_bipush (v := (nI 6)) hx hb dX7_init_97 (by decide) ?_
            refine lv_icmp_ge (tgt := 139) hx hb dX7_init_99 (by decide) (fun c_32 => ?_) (fun c_32 => ?_)
            · exact absurd c_32 (by decide)
            · refine lv_aload_n hx hb dX7_init_102 rfl (lv_at hl 1 rfl) ?_
              refine xk_get (ci := 7) (C := RX7) (T := TX7) (N := 12) hx hb hts inX7 hown hK fa_0 rfl 0 (by decide) (hts (.fieldLink RX7 7 "HalfTicketsModel" "all" "[I") (List.mem_of_getElem? (i := 5) (by decide +kernel))) (fun _ h9 => h9) rfl dX7_init_103 ?_
              refine lv_bipush (v := (nI 8)) hx hb dX7_init_106 (by decide) ?_
              refine lv_iload_n hx hb dX7_init_108 rfl (lv_at hl 0 rfl) ?_
              refine lv_iadd hx hb dX7_init_109 ?_
              refine lv_iconst (v := (nI 1)) hx hb dX7_init_110 (by decide) ?_
              refine xk_iast hx hb hK hS fa_1 (Or.inr (by omega)) 13 (by decide) (by decide) (by decide) dX7_init_111 (fun H locs fa_1 hz9 ho hS => ?_)
              replace hz := hz9.trans hz
              clear hz9
              obtain ⟨F_33, eF_33⟩ : ∃ F9, F9 = upd (F_31) 13 (nI 1) := ⟨_, rfl⟩
              rw [← eF_33] at fa_1
              replace fa_0 := va_at.kept fa_0 (ho h (by omega))
              replace fa_2 := va_at.kept fa_2 (ho (h + 2) (by omega))
              replace fa_3 := va_at.kept fa_3 (ho (h + 3) (by omega))
              replace fa_4 := va_at.kept fa_4 (ho (h + 4) (by omega))
              replace fa_5 := va_at.kept fa_5 (ho (h + 5) (by omega))
              replace fa_6 := va_at.kept fa_6 (ho (h + 6) (by omega))
              replace fa_7 := va_at.kept fa_7 (ho (h + 7) (by omega))
              replace fa_8 := va_at.kept fa_8 (ho (h + 8) (by omega))
              replace fa_9 := va_at.kept fa_9 (ho (h + 9) (by omega))
              clear ho
              refine lv_aload_n hx hb dX7_init_112 rfl (lv_at hl 1 rfl) ?_
              refine xk_get (ci := 7) (C := RX7) (T := TX7) (N := 12) hx hb hts inX7 hown hK fa_0 rfl 0 (by decide) (hts (.fieldLink RX7 7 "HalfTicketsModel" "all" "[I") (List.mem_of_getElem? (i := 5) (by decide +kernel))) (fun _ h9 => h9) rfl dX7_init_113 ?_
              refine lv_bipush (v := (nI 14)) hx hb dX7_init_116 (by decide) ?_
              refine lv_iload_n hx hb dX7_init_118 rfl (lv_at hl 0 rfl) ?_
              refine lv_iadd hx hb dX7_init_119 ?_
              refine lv_iconst (v := (nI 1)) hx hb dX7_init_120 (by decide) ?_
              refine xk_iast hx hb hK hS fa_1 (Or.inr (by omega)) 19 (by decide) (by decide) (by decide) dX7_init_121 (fun H locs fa_1 hz9 ho hS => ?_)
              replace hz := hz9.trans hz
              clear hz9
              obtain ⟨F_34, eF_34⟩ : ∃ F9, F9 = upd (F_33) 19 (nI 1) := ⟨_, rfl⟩
              rw [← eF_34] at fa_1
              replace fa_0 := va_at.kept fa_0 (ho h (by omega))
              replace fa_2 := va_at.kept fa_2 (ho (h + 2) (by omega))
              replace fa_3 := va_at.kept fa_3 (ho (h + 3) (by omega))
              replace fa_4 := va_at.kept fa_4 (ho (h + 4) (by omega))
              replace fa_5 := va_at.kept fa_5 (ho (h + 5) (by omega))
              replace fa_6 := va_at.kept fa_6 (ho (h + 6) (by omega))
              replace fa_7 := va_at.kept fa_7 (ho (h + 7) (by omega))
              replace fa_8 := va_at.kept fa_8 (ho (h + 8) (by omega))
              replace fa_9 := va_at.kept fa_9 (ho (h + 9) (by omega))
              clear ho
              refine lv_aload_n hx hb dX7_init_122 rfl (lv_at hl 1 rfl) ?_
              refine xk_get (ci := 7) (C := RX7) (T := TX7) (N := 12) hx hb hts inX7 hown hK fa_0 rfl 0 (by decide) (hts (.fieldLink RX7 7 "HalfTicketsModel" "all" "[I") (List.mem_of_getElem? (i := 5) (by decide +kernel))) (fun _ h9 => h9) rfl dX7_init_123 ?_
              refine lv_bipush (v := (nI 20)) hx hb dX7_init_126 (by decide) ?_
              refine lv_iload_n hx hb dX7_init_128 rfl (lv_at hl 0 rfl) ?_
              refine lv_iadd hx hb dX7_init_129 ?_
              refine lv_bipush (v := (nI 8)) hx hb dX7_init_130 (by decide) ?_
              refine xk_iast hx hb hK hS fa_1 (Or.inr (by omega)) 25 (by decide) (by decide) (by decide) dX7_init_132 (fun H locs fa_1 hz9 ho hS => ?_)
              replace hz := hz9.trans hz
              clear hz9
              obtain ⟨F_35, eF_35⟩ : ∃ F9, F9 = upd (F_34) 25 (nI 8) := ⟨_, rfl⟩
              rw [← eF_35] at fa_1
              replace fa_0 := va_at.kept fa_0 (ho h (by omega))
              replace fa_2 := va_at.kept fa_2 (ho (h + 2) (by omega))
              replace fa_3 := va_at.kept fa_3 (ho (h + 3) (by omega))
              replace fa_4 := va_at.kept fa_4 (ho (h + 4) (by omega))
              replace fa_5 := va_at.kept fa_5 (ho (h + 5) (by omega))
              replace fa_6 := va_at.kept fa_6 (ho (h + 6) (by omega))
              replace fa_7 := va_at.kept fa_7 (ho (h + 7) (by omega))
              replace fa_8 := va_at.kept fa_8 (ho (h + 8) (by omega))
              replace fa_9 := va_at.kept fa_9 (ho (h + 9) (by omega))
              clear ho
              refine lv_iinc (v := (nI 6)) (lv' := [(1, .int (nI 6)), (0, .ref h)]) hx hb dX7_init_133 hl (k := 0) rfl (rfl) (by decide) rfl (fun ls hl => ?_)
              refine lv_goto (tgt := 96) hx hb dX7_init_136 (by decide) ?_
              refine lv_iload_n hx hb dX7_init_96 rfl (lv_at hl 0 rfl) ?_
              refine lv_bipush (v := (nI 6)) hx hb dX7_init_97 (by decide) ?_
              refine lv_icmp_ge (tgt := 139) hx hb dX7_init_99 (by decide) (fun c_36 => ?_) (fun c_36 => ?_)
              · have hup : ∀ j, 26 ≤ j → F_35 j = nI 0 := by
                  rw [eF_35, eF_34, eF_33, eF_31, eF_30, eF_29, eF_27, eF_26, eF_25, eF_23, eF_22, eF_21, eF_19, eF_18, eF_17, eF_15, eF_14, eF_13, eF_11, eF_10]
                  exact xm_ups (by decide) (xm_ups (by decide) (xm_ups (by decide) (xm_ups (by decide) (xm_ups (by decide) (xm_ups (by decide) (xm_ups (by decide) (xm_ups (by decide) (xm_ups (by decide) (xm_ups (by decide) (xm_ups (by decide) (xm_ups (by decide) (xm_ups (by decide) (xm_ups (by decide) (xm_ups (by decide) (xm_ups (by decide) (xm_ups (by decide) (xm_ups (by decide) (xm_ups (by decide) (xm_ups (by decide) (fun _ _ => rfl))))))))))))))))))))
                have hlo : ∀ j, j < 26 → F_35 j = xm_al j := by
                  rw [eF_35, eF_34, eF_33, eF_31, eF_30, eF_29, eF_27, eF_26, eF_25, eF_23, eF_22, eF_21, eF_19, eF_18, eF_17, eF_15, eF_14, eF_13, eF_11, eF_10]
                  exact fun j hj => by rcases (show j = 0 ∨ j = 1 ∨ j = 2 ∨ j = 3 ∨ j = 4 ∨ j = 5 ∨ j = 6 ∨ j = 7 ∨ j = 8 ∨ j = 9 ∨ j = 10 ∨ j = 11 ∨ j = 12 ∨ j = 13 ∨ j = 14 ∨ j = 15 ∨ j = 16 ∨ j = 17 ∨ j = 18 ∨ j = 19 ∨ j = 20 ∨ j = 21 ∨ j = 22 ∨ j = 23 ∨ j = 24 ∨ j = 25 by omega) with rfl | rfl | rfl | rfl | rfl | rfl | rfl | rfl | rfl | rfl | rfl | rfl | rfl | rfl | rfl | rfl | rfl | rfl | rfl | rfl | rfl | rfl | rfl | rfl | rfl | rfl <;> rfl
                rw [xm_end hlo hup] at fa_1
                exact W.vret hx hb hr (fun t ht hWm => ⟨⟨(), rfl, trivial, xk_end ht hz (show xk_R G g h H from ⟨fa_0, fa_1, fa_2, fa_3, fa_4, fa_5, fa_6, fa_7, fa_8, fa_9⟩)⟩, hS.F ht⟩) hS.2.2 dX7_init_139
              · exact absurd (by decide) c_36
