set_option maxHeartbeats 4000000 in
set_option maxRecDepth 100000 in
/-- Line() -/
theorem k_X1_init (l : Launch) {G : va_G} {g : Nat → ClassId} {t0 : Nat → Nat} {A : Nat → Prop} {h sz : Nat} (hh : h + 1 = sz) (hAA : ∀ q, xA_k h sz q → A q)  : Met l yX1_init wsX1_init ({ frames := 1, cells := 1, slots := 24, locals := 40 }) (va_Pc [.ref h] (xK_p G g t0 A sz h 1 [.null, .int 0])) (va_Qv (fun _ : Unit => True) (fun _ t => t.heap.size = sz + 1 ∧ xk_L G g h t.heap) (xA_k h sz)) 1 24 (xA_k h sz) := by
  refine Met.ofW (cc := cX1_init) (maxL := 1) (ret := none) (by decide) rfl ?_
  intro p e s m args below meth c s₁ B hml hv
  obtain ⟨rfl, hz, fa_0, hK, hst, hnw⟩ := hv
  have hx := B.exec
  have hb := B.bytes
  have hr := B.returns
  have hts := atoms_spec (ws := wsX1_init) B.pre
  have hown : s.vm.findClass RX1 = some m.cls := findClass_of_methodNamed B.named
  have hlocks := B.notSynchronized
  have hin : meth.name = "<init>" := (name_of_methodNamed B.named B.method).1
  have hS : va_S (xA_k h sz) s.heap s.heap [] := va_S.rf
  have hAh : xA_k h sz h := Or.inl rfl
  have inX1 : ∀ w ∈ u_ws RX1 TX1 2, w ∈ wsX1_init := by decide +kernel
  have hl := lv_entry ([.ref h]) (n := 1) (Nat.le_of_ble_eq_true rfl)
  rw [lg_entry_eq]
  generalize (lg_sl ([.ref h]) ++ List.replicate (1 - (lg_sl ([.ref h])).length) Slot.unset).toArray = ls at hl ⊢
  have hl : lv_has ls 1 [(0, .ref h)] := hl
  refine lv_aload_n hx hb dX1_init_0 rfl (lv_at hl 0 rfl) ?_
  refine W.objInit hx hb hown (hts (.methodLink RX1 3 objectInit) (List.mem_of_getElem? (i := 1) (by decide +kernel))) (hts (.instanceMethod objectInit) (List.mem_of_getElem? (i := 2) (by decide +kernel))) (hts (.code objectInit ⟨#[0xb1]⟩ 1 none) (List.mem_of_getElem? (i := 3) (by decide +kernel))) rfl (by rw [hml]; exact hl.1) rfl dX1_init_1 (Nat.le_of_ble_eq_true rfl) (Nat.le_of_ble_eq_true rfl) ?_
  refine W.eq (g2 := F0 m 4 ls []) rfl ?_
  refine lv_aload_n hx hb dX1_init_4 rfl (lv_at hl 0 rfl) ?_
  refine lv_bipush (v := (nI 24)) hx hb dX1_init_5 (by decide) ?_
  refine xk_newa (atype := .int) (h := sz) (N := 24) hx hb (hts (.arrayClass .int) (List.mem_of_getElem? (i := 4) (by decide +kernel))) (hK.2 0 _ rfl).2 hS hz rfl (by decide) (Nat.le_of_ble_eq_true rfl) (by decide +kernel) (by decide +kernel) dX1_init_7 (fun H fa_1 hz9 ho hS => ?_)
  replace hz := hz9
  clear hz9
  have fa_1 : va_at G vwCl (sz, .inl (g 0, 24, .inl (fun _ => nI 0))) H := fa_1
  replace fa_0 := va_at.kept fa_0 (ho h (by omega))
  clear ho
  refine xk_putF (ci := 1) (v := .ref sz) (ty := .array .int) (C := RX1) (T := TX1) (N := 2) hx hb hts inX1 tyX1 tyX1_ok nmX1 hown hK hS fa_0 hAh rfl 0 (by decide) (hts (.fieldLink RX1 9 "HalfTickets$Line" "numbers" "[I") (List.mem_of_getElem? (i := 5) (by decide +kernel))) (fun _ h9 => h9) rfl hin rfl (by decide +kernel) rfl rfl (Nat.le_of_ble_eq_true rfl) dX1_init_9 (fun H locs fa_0 hz9 ho hS => ?_)
  replace hz := hz9.trans hz
  clear hz9
  have fa_0 : va_at G vwCl (h, .inr (1, [.ref sz, .int 0])) H := fa_0
  replace fa_1 := va_at.kept fa_1 (ho sz (by omega))
  clear ho
  exact W.vret hx hb hr (fun t ht hWm => ⟨⟨(), rfl, trivial, xk_end ht hz (by subst hh; exact ⟨fa_0, fa_1⟩)⟩, hS.F ht⟩) hS.2.2 dX1_init_12

set_option maxHeartbeats 4000000 in
set_option maxRecDepth 100000 in
/-- Person(v) -/
theorem k_X4_init (l : Launch) {G : va_G} {g : Nat → ClassId} {t0 : Nat → Nat} {A : Nat → Prop} {h sz : Nat} (hh : h + 1 = sz) (hAA : ∀ q, xA_k h sz q → A q) (v : Int32) : Met l yX4_init wsX4_init ({ frames := 1, cells := 1, slots := 8, locals := 40 }) (va_Pc [.ref h, .int v] (xK_p G g t0 A sz h 4 [.int 0, .null, .int 0, .int 0, .int 0, .int 0, .int 0, .int 0, .int 0, .int 0, .int 0, .int 0])) (va_Qv (fun _ : Unit => True) (fun _ t => t.heap.size = sz + 1 ∧ xk_P G g h v t.heap) (xA_k h sz)) 1 8 (xA_k h sz) := by
  refine Met.ofW (cc := cX4_init) (maxL := 2) (ret := none) (by decide) rfl ?_
  intro p e s m args below meth c s₁ B hml hv
  obtain ⟨rfl, hz, fa_0, hK, hst, hnw⟩ := hv
  have hx := B.exec
  have hb := B.bytes
  have hr := B.returns
  have hts := atoms_spec (ws := wsX4_init) B.pre
  have hown : s.vm.findClass RX4 = some m.cls := findClass_of_methodNamed B.named
  have hlocks := B.notSynchronized
  have hin : meth.name = "<init>" := (name_of_methodNamed B.named B.method).1
  have hS : va_S (xA_k h sz) s.heap s.heap [] := va_S.rf
  have hAh : xA_k h sz h := Or.inl rfl
  have inX4 : ∀ w ∈ u_ws RX4 TX4 12, w ∈ wsX4_init := by decide +kernel
  have hl := lv_entry ([.ref h, .int v]) (n := 2) (Nat.le_of_ble_eq_true rfl)
  rw [lg_entry_eq]
  generalize (lg_sl ([.ref h, .int v]) ++ List.replicate (2 - (lg_sl ([.ref h, .int v])).length) Slot.unset).toArray = ls at hl ⊢
  have hl : lv_has ls 2 [(0, .ref h), (1, .int v)] := hl
  refine lv_aload_n hx hb dX4_init_0 rfl (lv_at hl 0 rfl) ?_
  refine W.objInit hx hb hown (hts (.methodLink RX4 3 objectInit) (List.mem_of_getElem? (i := 1) (by decide +kernel))) (hts (.instanceMethod objectInit) (List.mem_of_getElem? (i := 2) (by decide +kernel))) (hts (.code objectInit ⟨#[0xb1]⟩ 1 none) (List.mem_of_getElem? (i := 3) (by decide +kernel))) rfl (by rw [hml]; exact hl.1) rfl dX4_init_1 (Nat.le_of_ble_eq_true rfl) (Nat.le_of_ble_eq_true rfl) ?_
  refine W.eq (g2 := F0 m 4 ls []) rfl ?_
  refine lv_aload_n hx hb dX4_init_4 rfl (lv_at hl 0 rfl) ?_
  refine lv_bipush (v := (nI 8)) hx hb dX4_init_5 (by decide) ?_
  refine xk_newa (atype := .int) (h := sz) (N := 8) hx hb (hts (.arrayClass .int) (List.mem_of_getElem? (i := 4) (by decide +kernel))) (hK.2 0 _ rfl).2 hS hz rfl (by decide) (Nat.le_of_ble_eq_true rfl) (by decide +kernel) (by decide +kernel) dX4_init_7 (fun H fa_1 hz9 ho hS => ?_)
  replace hz := hz9
  clear hz9
  have fa_1 : va_at G vwCl (sz, .inl (g 0, 8, .inl (fun _ => nI 0))) H := fa_1
  replace fa_0 := va_at.kept fa_0 (ho h (by omega))
  clear ho
  refine xk_putF (ci := 4) (v := .ref sz) (ty := .array .int) (C := RX4) (T := TX4) (N := 12) hx hb hts inX4 tyX4 tyX4_ok nmX4 hown hK hS fa_0 hAh rfl 1 (by decide) (hts (.fieldLink RX4 9 "HalfTickets$Person" "errand" "[I") (List.mem_of_getElem? (i := 5) (by decide +kernel))) (fun _ h9 => h9) rfl hin rfl (by decide +kernel) rfl rfl (Nat.le_of_ble_eq_true rfl) dX4_init_9 (fun H locs fa_0 hz9 ho hS => ?_)
  replace hz := hz9.trans hz
  clear hz9
  have fa_0 : va_at G vwCl (h, .inr (4, [.int 0, .ref sz, .int 0, .int 0, .int 0, .int 0, .int 0, .int 0, .int 0, .int 0, .int 0, .int 0])) H := fa_0
  replace fa_1 := va_at.kept fa_1 (ho sz (by omega))
  clear ho
  refine lv_aload_n hx hb dX4_init_12 rfl (lv_at hl 0 rfl) ?_
  refine lv_iconst (v := (nI 4)) hx hb dX4_init_13 (by decide) ?_
  refine xk_put (ci := 4) (v := .int (nI 4)) (ty := .int) (C := RX4) (T := TX4) (N := 12) hx hb hts inX4 tyX4 tyX4_ok nmX4 hown hK hS fa_0 hAh rfl 3 (by decide) (hts (.fieldLink RX4 15 "HalfTickets$Person" "where" "I") (List.mem_of_getElem? (i := 6) (by decide +kernel))) (fun _ h9 => h9) rfl (by decide +kernel) rfl rfl (Nat.le_of_ble_eq_true rfl) dX4_init_14 (fun H locs fa_0 hz9 ho hS => ?_)
  replace hz := hz9.trans hz
  clear hz9
  have fa_0 : va_at G vwCl (h, .inr (4, [.int 0, .ref sz, .int 0, .int (nI 4), .int 0, .int 0, .int 0, .int 0, .int 0, .int 0, .int 0, .int 0])) H := fa_0
  replace fa_1 := va_at.kept fa_1 (ho sz (by omega))
  clear ho
  refine lv_aload_n hx hb dX4_init_17 rfl (lv_at hl 0 rfl) ?_
  refine lv_bipush (v := (-6)) hx hb dX4_init_18 (by decide) ?_
  refine xk_put (ci := 4) (v := .int (-6)) (ty := .int) (C := RX4) (T := TX4) (N := 12) hx hb hts inX4 tyX4 tyX4_ok nmX4 hown hK hS fa_0 hAh rfl 10 (by decide) (hts (.fieldLink RX4 19 "HalfTickets$Person" "goneBehind" "I") (List.mem_of_getElem? (i := 7) (by decide +kernel))) (fun _ h9 => h9) rfl (by decide +kernel) rfl rfl (Nat.le_of_ble_eq_true rfl) dX4_init_20 (fun H locs fa_0 hz9 ho hS => ?_)
  replace hz := hz9.trans hz
  clear hz9
  have fa_0 : va_at G vwCl (h, .inr (4, [.int 0, .ref sz, .int 0, .int (nI 4), .int 0, .int 0, .int 0, .int 0, .int 0, .int 0, .int (-6), .int 0])) H := fa_0
  replace fa_1 := va_at.kept fa_1 (ho sz (by omega))
  clear ho
  refine lv_aload_n hx hb dX4_init_23 rfl (lv_at hl 0 rfl) ?_
  refine lv_iload_n hx hb dX4_init_24 rfl (lv_at hl 1 rfl) ?_
  refine xk_putF (ci := 4) (v := .int v) (ty := .int) (C := RX4) (T := TX4) (N := 12) hx hb hts inX4 tyX4 tyX4_ok nmX4 hown hK hS fa_0 hAh rfl 0 (by decide) (hts (.fieldLink RX4 22 "HalfTickets$Person" "number" "I") (List.mem_of_getElem? (i := 8) (by decide +kernel))) (fun _ h9 => h9) rfl hin rfl (by decide +kernel) rfl rfl (Nat.le_of_ble_eq_true rfl) dX4_init_25 (fun H locs fa_0 hz9 ho hS => ?_)
  replace hz := hz9.trans hz
  clear hz9
  have fa_0 : va_at G vwCl (h, .inr (4, [.int v, .ref sz, .int 0, .int (nI 4), .int 0, .int 0, .int 0, .int 0, .int 0, .int 0, .int (-6), .int 0])) H := fa_0
  replace fa_1 := va_at.kept fa_1 (ho sz (by omega))
  clear ho
  exact W.vret hx hb hr (fun t ht hWm => ⟨⟨(), rfl, trivial, xk_end ht hz (by subst hh; exact ⟨fa_0, fa_1⟩)⟩, hS.F ht⟩) hS.2.2 dX4_init_28

set_option maxHeartbeats 4000000 in
set_option maxRecDepth 100000 in
/-- Pad() -/
theorem k_X3_init (l : Launch) {G : va_G} {g : Nat → ClassId} {t0 : Nat → Nat} {A : Nat → Prop} {h sz : Nat} (hh : h + 1 = sz) (hAA : ∀ q, xA_k h sz q → A q)  : Met l yX3_init wsX3_init ({ frames := 1, cells := 1, slots := 60, locals := 40 }) (va_Pc [.ref h] (xK_p G g t0 A sz h 3 [.null, .int 0])) (va_Qv (fun _ : Unit => True) (fun _ t => t.heap.size = sz + 1 ∧ xk_D G g h t.heap) (xA_k h sz)) 1 60 (xA_k h sz) := by
  refine Met.ofW (cc := cX3_init) (maxL := 1) (ret := none) (by decide) rfl ?_
  intro p e s m args below meth c s₁ B hml hv
  obtain ⟨rfl, hz, fa_0, hK, hst, hnw⟩ := hv
  have hx := B.exec
  have hb := B.bytes
  have hr := B.returns
  have hts := atoms_spec (ws := wsX3_init) B.pre
  have hown : s.vm.findClass RX3 = some m.cls := findClass_of_methodNamed B.named
  have hlocks := B.notSynchronized
  have hin : meth.name = "<init>" := (name_of_methodNamed B.named B.method).1
  have hS : va_S (xA_k h sz) s.heap s.heap [] := va_S.rf
  have hAh : xA_k h sz h := Or.inl rfl
  have inX3 : ∀ w ∈ u_ws RX3 TX3 2, w ∈ wsX3_init := by decide +kernel
  have hl := lv_entry ([.ref h]) (n := 1) (Nat.le_of_ble_eq_true rfl)
  rw [lg_entry_eq]
  generalize (lg_sl ([.ref h]) ++ List.replicate (1 - (lg_sl ([.ref h])).length) Slot.unset).toArray = ls at hl ⊢
  have hl : lv_has ls 1 [(0, .ref h)] := hl
  refine lv_aload_n hx hb dX3_init_0 rfl (lv_at hl 0 rfl) ?_
  refine W.objInit hx hb hown (hts (.methodLink RX3 3 objectInit) (List.mem_of_getElem? (i := 1) (by decide +kernel))) (hts (.instanceMethod objectInit) (List.mem_of_getElem? (i := 2) (by decide +kernel))) (hts (.code objectInit ⟨#[0xb1]⟩ 1 none) (List.mem_of_getElem? (i := 3) (by decide +kernel))) rfl (by rw [hml]; exact hl.1) rfl dX3_init_1 (Nat.le_of_ble_eq_true rfl) (Nat.le_of_ble_eq_true rfl) ?_
  refine W.eq (g2 := F0 m 4 ls []) rfl ?_
  refine lv_aload_n hx hb dX3_init_4 rfl (lv_at hl 0 rfl) ?_
  refine lv_bipush (v := (nI 60)) hx hb dX3_init_5 (by decide) ?_
  refine xk_newa (atype := .char) (h := sz) (N := 60) hx hb (hts (.arrayClass .char) (List.mem_of_getElem? (i := 4) (by decide +kernel))) (hK.2 2 _ rfl).2 hS hz rfl (by decide) (Nat.le_of_ble_eq_true rfl) (by decide +kernel) (by decide +kernel) dX3_init_7 (fun H fa_1 hz9 ho hS => ?_)
  replace hz := hz9
  clear hz9
  have fa_1 : va_at G vwCl (sz, .inl (g 2, 60, .inl (fun _ => nI 0))) H := fa_1
  replace fa_0 := va_at.kept fa_0 (ho h (by omega))
  clear ho
  refine xk_putF (ci := 3) (v := .ref sz) (ty := .array .char) (C := RX3) (T := TX3) (N := 2) hx hb hts inX3 tyX3 tyX3_ok nmX3 hown hK hS fa_0 hAh rfl 0 (by decide) (hts (.fieldLink RX3 9 "HalfTickets$Pad" "text" "[C") (List.mem_of_getElem? (i := 5) (by decide +kernel))) (fun _ h9 => h9) rfl hin rfl (by decide +kernel) rfl rfl (Nat.le_of_ble_eq_true rfl) dX3_init_9 (fun H locs fa_0 hz9 ho hS => ?_)
  replace hz := hz9.trans hz
  clear hz9
  have fa_0 : va_at G vwCl (h, .inr (3, [.ref sz, .int 0])) H := fa_0
  replace fa_1 := va_at.kept fa_1 (ho sz (by omega))
  clear ho
  exact W.vret hx hb hr (fun t ht hWm => ⟨⟨(), rfl, trivial, xk_end ht hz (by subst hh; exact ⟨fa_0, fa_1⟩)⟩, hS.F ht⟩) hS.2.2 dX3_init_12

set_option maxHeartbeats 4000000 in
set_option maxRecDepth 100000 in
/-- Window(v) -/
theorem k_X5_init (l : Launch) {G : va_G} {g : Nat → ClassId} {t0 : Nat → Nat} {A : Nat → Prop} {h sz : Nat} (hh : h + 1 = sz) (hAA : ∀ q, xA_k h sz q → A q) (v : Int32) : Met l yX5_init wsX5_init ({ frames := 2, cells := 4, slots := 52, locals := 70 }) (va_Pc [.ref h, .int v] (xK_p G g t0 A sz h 5 [.int 0, .int 0, .int 0, .int 0, .int 0, .null, .null])) (va_Qv (fun _ : Unit => True) (fun _ t => t.heap.size = sz + 4 ∧ xk_W G g h v t.heap) (xA_k h sz)) 4 52 (xA_k h sz) := by
  refine Met.ofW (cc := cX5_init) (maxL := 2) (ret := none) (by decide) rfl ?_
  intro p e s m args below meth c s₁ B hml hv
  obtain ⟨rfl, hz, fa_0, hK, hst, hnw⟩ := hv
  have hx := B.exec
  have hb := B.bytes
  have hr := B.returns
  have hts := atoms_spec (ws := wsX5_init) B.pre
  have hown : s.vm.findClass RX5 = some m.cls := findClass_of_methodNamed B.named
  have hlocks := B.notSynchronized
  have hin : meth.name = "<init>" := (name_of_methodNamed B.named B.method).1
  have hS : va_S (xA_k h sz) s.heap s.heap [] := va_S.rf
  have hAh : xA_k h sz h := Or.inl rfl
  have inX1 : ∀ w ∈ u_ws RX1 TX1 2, w ∈ wsX5_init := by decide +kernel
  have inX5 : ∀ w ∈ u_ws RX5 TX5 7, w ∈ wsX5_init := by decide +kernel
  have hl := lv_entry ([.ref h, .int v]) (n := 2) (Nat.le_of_ble_eq_true rfl)
  rw [lg_entry_eq]
  generalize (lg_sl ([.ref h, .int v]) ++ List.replicate (2 - (lg_sl ([.ref h, .int v])).length) Slot.unset).toArray = ls at hl ⊢
  have hl : lv_has ls 2 [(0, .ref h), (1, .int v)] := hl
  refine lv_aload_n hx hb dX5_init_0 rfl (lv_at hl 0 rfl) ?_
  refine W.objInit hx hb hown (hts (.methodLink RX5 1 objectInit) (List.mem_of_getElem? (i := 1) (by decide +kernel))) (hts (.instanceMethod objectInit) (List.mem_of_getElem? (i := 2) (by decide +kernel))) (hts (.code objectInit ⟨#[0xb1]⟩ 1 none) (List.mem_of_getElem? (i := 3) (by decide +kernel))) rfl (by rw [hml]; exact hl.1) rfl dX5_init_1 (Nat.le_of_ble_eq_true rfl) (Nat.le_of_ble_eq_true rfl) ?_
  refine W.eq (g2 := F0 m 4 ls []) rfl ?_
  refine lv_aload_n hx hb dX5_init_4 rfl (lv_at hl 0 rfl) ?_
  refine lv_iconst (v := (nI 1)) hx hb dX5_init_5 (by decide) ?_
  refine xk_put (ci := 5) (v := .int (nI 1)) (ty := .boolean) (C := RX5) (T := TX5) (N := 7) hx hb hts inX5 tyX5 tyX5_ok nmX5 hown hK hS fa_0 hAh rfl 0 (by decide) (hts (.fieldLink RX5 7 "HalfTickets$Window" "isOpen" "Z") (List.mem_of_getElem? (i := 4) (by decide +kernel))) (fun _ h9 => h9) rfl (by decide +kernel) rfl rfl (Nat.le_of_ble_eq_true rfl) dX5_init_6 (fun H locs fa_0 hz9 ho hS => ?_)
  replace hz := hz9.trans hz
  clear hz9
  have fa_0 : va_at G vwCl (h, .inr (5, [.int (nI 1), .int 0, .int 0, .int 0, .int 0, .null, .null])) H := fa_0
  clear ho
  refine lv_aload_n hx hb dX5_init_9 rfl (lv_at hl 0 rfl) ?_
  refine lv_iconst (v := (nI 1)) hx hb dX5_init_10 (by decide) ?_
  refine xk_put (ci := 5) (v := .int (nI 1)) (ty := .int) (C := RX5) (T := TX5) (N := 7) hx hb hts inX5 tyX5 tyX5_ok nmX5 hown hK hS fa_0 hAh rfl 1 (by decide) (hts (.fieldLink RX5 13 "HalfTickets$Window" "clerks" "I") (List.mem_of_getElem? (i := 5) (by decide +kernel))) (fun _ h9 => h9) rfl (by decide +kernel) rfl rfl (Nat.le_of_ble_eq_true rfl) dX5_init_11 (fun H locs fa_0 hz9 ho hS => ?_)
  replace hz := hz9.trans hz
  clear hz9
  have fa_0 : va_at G vwCl (h, .inr (5, [.int (nI 1), .int (nI 1), .int 0, .int 0, .int 0, .null, .null])) H := fa_0
  clear ho
  refine lv_aload_n hx hb dX5_init_14 rfl (lv_at hl 0 rfl) ?_
  refine xk_new (h := sz) (ci := 1) (fs := [.null, .int 0]) (C := RX1) (T := TX1) (N := 2) hx hb hts inX1 tyX1 tyX1_ok hown (hts (.classLink RX5 17 RX1) (List.mem_of_getElem? (i := 6) (by decide +kernel))) (hts (.instantiable RX1 2) (List.mem_of_getElem? (i := 7) (by decide +kernel))) (hts (.initialized RX1) (List.mem_of_getElem? (i := 8) (by decide +kernel))) hK hS hz rfl (fun j hj => by rcases (show j = 0 ∨ j = 1 by omega) with rfl | rfl <;> rfl) (by decide +kernel) (by decide +kernel) dX5_init_15 (fun H fa_1 hz9 ho hS => ?_)
  replace hz := hz9
  clear hz9
  replace fa_0 := va_at.kept fa_0 (ho h (by omega))
  clear ho
  refine lv_dup hx hb dX5_init_18 rfl ?_
  refine xk_IN (As := []) (rest := [.ref sz, .ref h]) (sz := (sz + 1)) ⟨hx, hb, hml, hown, hts⟩ (k_X1_init l (A := A) (h := sz) (sz := (sz + 1)) (by omega) (fun q hq => hAA q (hq.elim (fun z => Or.inr (by omega)) (fun z => Or.inr (by omega))))) ⟨va_cnB 0 hts gX5_init_X1_init_n19 rfl rfl rfl hnw.2.2.1 (hts (.initialized RX1) (List.mem_of_getElem? (i := 8) (by decide +kernel))) (by decide +kernel) ⟨Nat.le_of_ble_eq_true rfl, Nat.le_of_ble_eq_true rfl⟩, rfl, (hts (.instanceMethod yX1_init) (List.mem_of_getElem? (i := 12) (by decide +kernel)))⟩ hK hst hnw hS hAA hz fa_1 (fun q hq => hq.elim (fun z => Or.inr (by omega)) (fun z => Or.inr (by omega))) rfl hl.1 rfl (Nat.le_of_ble_eq_true rfl) dX5_init_19 ⟨by decide +kernel, by decide +kernel⟩ (fun H locs fp_2 hz9 ho hS => ?_)
  replace fa_0 := va_at.kept fa_0 (ho h (by omega))
  clear ho
  replace hz : H.size = (sz + 2) := by omega
  clear hz9
  refine xk_putF (ci := 5) (v := .ref sz) (ty := .object "HalfTickets$Line") (C := RX5) (T := TX5) (N := 7) hx hb hts inX5 tyX5 tyX5_ok nmX5 hown hK hS fa_0 hAh rfl 5 (by decide) (hts (.fieldLink RX5 20 "HalfTickets$Window" "queue" "LHalfTickets$Line;") (List.mem_of_getElem? (i := 9) (by decide +kernel))) (fun _ h9 => h9) rfl hin rfl (by decide +kernel) rfl rfl (Nat.le_of_ble_eq_true rfl) dX5_init_22 (fun H locs fa_0 hz9 ho hS => ?_)
  replace hz := hz9.trans hz
  clear hz9
  have fa_0 : va_at G vwCl (h, .inr (5, [.int (nI 1), .int (nI 1), .int 0, .int 0, .int 0, .ref sz, .null])) H := fa_0
  replace fp_2 := fp_2.kept (fun q hq => ho q (by omega))
  clear ho
  refine lv_aload_n hx hb dX5_init_25 rfl (lv_at hl 0 rfl) ?_
  refine xk_new (h := (sz + 2)) (ci := 1) (fs := [.null, .int 0]) (C := RX1) (T := TX1) (N := 2) hx hb hts inX1 tyX1 tyX1_ok hown (hts (.classLink RX5 17 RX1) (List.mem_of_getElem? (i := 6) (by decide +kernel))) (hts (.instantiable RX1 2) (List.mem_of_getElem? (i := 7) (by decide +kernel))) (hts (.initialized RX1) (List.mem_of_getElem? (i := 8) (by decide +kernel))) hK hS hz rfl (fun j hj => by rcases (show j = 0 ∨ j = 1 by omega) with rfl | rfl <;> rfl) (by decide +kernel) (by decide +kernel) dX5_init_26 (fun H fa_3 hz9 ho hS => ?_)
  replace hz := hz9
  clear hz9
  replace fa_0 := va_at.kept fa_0 (ho h (by omega))
  replace fp_2 := fp_2.kept (fun q hq => ho q (by omega))
  clear ho
  refine lv_dup hx hb dX5_init_29 rfl ?_
  refine xk_IN (As := []) (rest := [.ref (sz + 2), .ref h]) (sz := (sz + 3)) ⟨hx, hb, hml, hown, hts⟩ (k_X1_init l (A := A) (h := (sz + 2)) (sz := (sz + 3)) (by omega) (fun q hq => hAA q (hq.elim (fun z => Or.inr (by omega)) (fun z => Or.inr (by omega))))) ⟨va_cnB 0 hts gX5_init_X1_init_n19 rfl rfl rfl hnw.2.2.1 (hts (.initialized RX1) (List.mem_of_getElem? (i := 8) (by decide +kernel))) (by decide +kernel) ⟨Nat.le_of_ble_eq_true rfl, Nat.le_of_ble_eq_true rfl⟩, rfl, (hts (.instanceMethod yX1_init) (List.mem_of_getElem? (i := 12) (by decide +kernel)))⟩ hK hst hnw hS hAA hz fa_3 (fun q hq => hq.elim (fun z => Or.inr (by omega)) (fun z => Or.inr (by omega))) rfl hl.1 rfl (Nat.le_of_ble_eq_true rfl) dX5_init_30 ⟨by decide +kernel, by decide +kernel⟩ (fun H locs fp_4 hz9 ho hS => ?_)
  replace fa_0 := va_at.kept fa_0 (ho h (by omega))
  replace fp_2 := fp_2.kept (fun q hq => ho q (by omega))
  clear ho
  replace hz : H.size = (sz + 4) := by omega
  clear hz9
  refine xk_putF (ci := 5) (v := .ref (sz + 2)) (ty := .object "HalfTickets$Line") (C := RX5) (T := TX5) (N := 7) hx hb hts inX5 tyX5 tyX5_ok nmX5 hown hK hS fa_0 hAh rfl 6 (by decide) (hts (.fieldLink RX5 24 "HalfTickets$Window" "serving" "LHalfTickets$Line;") (List.mem_of_getElem? (i := 10) (by decide +kernel))) (fun _ h9 => h9) rfl hin rfl (by decide +kernel) rfl rfl (Nat.le_of_ble_eq_true rfl) dX5_init_33 (fun H locs fa_0 hz9 ho hS => ?_)
  replace hz := hz9.trans hz
  clear hz9
  have fa_0 : va_at G vwCl (h, .inr (5, [.int (nI 1), .int (nI 1), .int 0, .int 0, .int 0, .ref sz, .ref (sz + 2)])) H := fa_0
  replace fp_2 := fp_2.kept (fun q hq => ho q (by omega))
  replace fp_4 := fp_4.kept (fun q hq => ho q (by omega))
  clear ho
  refine lv_aload_n hx hb dX5_init_36 rfl (lv_at hl 0 rfl) ?_
  refine lv_iload_n hx hb dX5_init_37 rfl (lv_at hl 1 rfl) ?_
  refine xk_put (ci := 5) (v := .int v) (ty := .int) (C := RX5) (T := TX5) (N := 7) hx hb hts inX5 tyX5 tyX5_ok nmX5 hown hK hS fa_0 hAh rfl 2 (by decide) (hts (.fieldLink RX5 27 "HalfTickets$Window" "halves" "I") (List.mem_of_getElem? (i := 11) (by decide +kernel))) (fun _ h9 => h9) rfl (by decide +kernel) rfl rfl (Nat.le_of_ble_eq_true rfl) dX5_init_38 (fun H locs fa_0 hz9 ho hS => ?_)
  replace hz := hz9.trans hz
  clear hz9
  have fa_0 : va_at G vwCl (h, .inr (5, [.int (nI 1), .int (nI 1), .int v, .int 0, .int 0, .ref sz, .ref (sz + 2)])) H := fa_0
  replace fp_2 := fp_2.kept (fun q hq => ho q (by omega))
  replace fp_4 := fp_4.kept (fun q hq => ho q (by omega))
  clear ho
  exact W.vret hx hb hr (fun t ht hWm => ⟨⟨(), rfl, trivial, xk_end ht hz (by subst hh; exact ⟨fa_0, fp_2, fp_4⟩)⟩, hS.F ht⟩) hS.2.2 dX5_init_41
