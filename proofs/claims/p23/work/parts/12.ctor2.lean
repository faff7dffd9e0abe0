theorem xk_up (F : Nat → Nat) (k j : Nat) : va_up (fun j => if j < k then some (F j) else none) k (some (F k)) j = if j < k + 1 then some (F j) else none := by
  unfold va_up
  by_cases h1 : j = k
  · subst h1
    rw [if_pos rfl, if_pos (Nat.lt_succ_self j)]
  · rw [if_neg h1]
    by_cases h2 : j < k
    · exact (if_pos h2).trans (if_pos (show j < k + 1 by omega)).symm
    · exact (if_neg h2).trans (if_neg (show ¬ j < k + 1 by omega)).symm
theorem xk_all {P : Nat → Prop} {k : Nat} (h : ∀ j, j < k → P j) (hk : P k) : ∀ j, j < k + 1 → P j := fun j hj => by
  rcases Nat.lt_or_ge j k with q | q
  · exact h j q
  · rw [show j = k by omega]; exact hk
theorem xk_q {G : va_G} {a n : Nat} {cA : ClassId} {f f' : Nat → Option Nat} {H : Heap} (h : va_at G vwCl (a, .inl (cA, n, .inr (.inr (.inr (.inr f))))) H) (hf : ∀ j, j < n → f j = f' j) : va_at G vwCl (a, .inl (cA, n, .inr (.inr (.inr (.inr f'))))) H := Eq.trans h (congrArg some (xw_arrq hf))

set_option maxHeartbeats 4000000 in
set_option maxRecDepth 100000 in
/-- Ministry() -/
theorem k_X2_init (l : Launch) {G : va_G} {g : Nat → ClassId} {t0 : Nat → Nat} {A : Nat → Prop} {h sz : Nat} (hh : h + 1 = sz) (hAA : ∀ q, xA_k h sz q → A q)  : Met l yX2_init wsX2_init ({ frames := 3, cells := 81, slots := 867, locals := 110 }) (va_Pc [.ref h] (xK_p G g t0 A sz h 2 [.null, .null, .null, .int 0, .int 0, .int 0, .int 0])) (va_Qv (fun _ : Unit => True) (fun _ t => t.heap.size = sz + 81 ∧ xk_M G g h t.heap) (xA_k h sz)) 81 867 (xA_k h sz) := by
  subst hh
  refine Met.ofW (cc := cX2_init) (maxL := 2) (ret := none) (by decide) rfl ?_
  intro p e s m args below meth c s₁ B hml hv
  obtain ⟨rfl, hz, fa_0, hK, hst, hnw⟩ := hv
  have hx := B.exec
  have hb := B.bytes
  have hr := B.returns
  have hts := atoms_spec (ws := wsX2_init) B.pre
  have hown : s.vm.findClass RX2 = some m.cls := findClass_of_methodNamed B.named
  have hlocks := B.notSynchronized
  have hin : meth.name = "<init>" := (name_of_methodNamed B.named B.method).1
  have hS : va_S (xA_k h (h + 1)) s.heap s.heap [] := va_S.rf
  have hAh : xA_k h (h + 1) h := Or.inl rfl
  have inX2 : ∀ w ∈ u_ws RX2 TX2 7, w ∈ wsX2_init := by decide +kernel
  have inX4 : ∀ w ∈ u_ws RX4 TX4 12, w ∈ wsX2_init := by decide +kernel
  have inX5 : ∀ w ∈ u_ws RX5 TX5 7, w ∈ wsX2_init := by decide +kernel
  have hl := lv_entry ([.ref h]) (n := 2) (Nat.le_of_ble_eq_true rfl)
  rw [lg_entry_eq]
  generalize (lg_sl ([.ref h]) ++ List.replicate (2 - (lg_sl ([.ref h])).length) Slot.unset).toArray = ls at hl ⊢
  have hl : lv_has ls 2 [(0, .ref h)] := hl
  refine lv_aload_n hx hb dX2_init_0 rfl (lv_at hl 0 rfl) ?_
  refine W.objInit hx hb hown (hts (.methodLink RX2 3 objectInit) (List.mem_of_getElem? (i := 1) (by decide +kernel))) (hts (.instanceMethod objectInit) (List.mem_of_getElem? (i := 2) (by decide +kernel))) (hts (.code objectInit ⟨#[0xb1]⟩ 1 none) (List.mem_of_getElem? (i := 3) (by decide +kernel))) rfl (by rw [hml]; exact hl.1) rfl dX2_init_1 (Nat.le_of_ble_eq_true rfl) (Nat.le_of_ble_eq_true rfl) ?_
  refine W.eq (g2 := F0 m 4 ls []) rfl ?_
  refine lv_aload_n hx hb dX2_init_4 rfl (lv_at hl 0 rfl) ?_
  refine va_getsN hx hb (hst.1.1.narrow hAA) hS hown (va_Nw.use rfl hnw.1) (fun _ h9 => h9) dX2_init_5 ?_
  refine xk_clone (h := (h + 1)) hx hb (by rw [hml]; exact hl.1.symm) hown (hts (.methodLink RX2 13 ⟨"[I", "clone", "()Ljava/lang/Object;"⟩) (List.mem_of_getElem? (i := 4) (by decide +kernel))) (hts (.sameMethod "[I" "java/lang/Object" "clone" "()Ljava/lang/Object;") (List.mem_of_getElem? (i := 5) (by decide +kernel))) (hts (.native ⟨"java/lang/Object", "clone", "()Ljava/lang/Object;"⟩) (List.mem_of_getElem? (i := 6) (by decide +kernel))) (hts (.instanceMethod ⟨"java/lang/Object", "clone", "()Ljava/lang/Object;"⟩) (List.mem_of_getElem? (i := 7) (by decide +kernel))) (hts (.selects "[I" ⟨"[I", "clone", "()Ljava/lang/Object;"⟩ ⟨"java/lang/Object", "clone", "()Ljava/lang/Object;"⟩) (List.mem_of_getElem? (i := 8) (by decide +kernel))) hnw.2.1 hK hnw (hst.2.2.2.narrow hAA) hS hz (Nat.le_of_ble_eq_true rfl) (Nat.le_of_ble_eq_true rfl) (by decide +kernel) (by decide +kernel) dX2_init_8 (fun H fa_1 hz9 ho hS => ?_)
  replace hz := hz9
  clear hz9
  replace fa_0 := va_at.kept fa_0 (ho h (by omega))
  clear ho
  refine va_castA hx hb hown (hts (.classLink RX2 14 "[I") (List.mem_of_getElem? (i := 9) (by decide +kernel))) (xw_P1 fa_1) 0 rfl hnw.2.2.2.2.2.2.2 dX2_init_11 ?_
  refine xk_putF (ci := 2) (v := .ref (h + 1)) (ty := .array .int) (C := RX2) (T := TX2) (N := 7) hx hb hts inX2 tyX2 tyX2_ok nmX2 hown hK hS fa_0 hAh rfl 0 (by decide) (hts (.fieldLink RX2 18 "HalfTickets$Ministry" "settings" "[I") (List.mem_of_getElem? (i := 10) (by decide +kernel))) (fun _ h9 => h9) rfl hin rfl (by decide +kernel) rfl rfl (Nat.le_of_ble_eq_true rfl) dX2_init_14 (fun H locs fa_0 hz9 ho hS => ?_)
  replace hz := hz9.trans hz
  clear hz9
  have fa_0 : va_at G vwCl (h, .inr (2, [.ref (h + 1), .null, .null, .int 0, .int 0, .int 0, .int 0])) H := fa_0
  replace fa_1 := va_at.kept fa_1 (ho (h + 1) (by omega))
  clear ho
  refine lv_aload_n hx hb dX2_init_17 rfl (lv_at hl 0 rfl) ?_
  refine lv_bipush (v := (nI 6)) hx hb dX2_init_18 (by decide) ?_
  refine xk_newq (C := RX5) (h := (h + 2)) (N := 6) hx hb hown (hts (.classLink RX2 23 RX5) (List.mem_of_getElem? (i := 11) (by decide +kernel))) hnw.2.2.2.2.2.2.1 hK 3 rfl hS hz rfl (by decide) (Nat.le_of_ble_eq_true rfl) (by decide +kernel) (by decide +kernel) dX2_init_20 (fun H fa_2 hz9 ho hS => ?_)
  replace hz := hz9
  clear hz9
  replace fa_0 := va_at.kept fa_0 (ho h (by omega))
  replace fa_1 := va_at.kept fa_1 (ho (h + 1) (by omega))
  clear ho
  refine xk_putF (ci := 2) (v := .ref (h + 2)) (ty := .array (.object "HalfTickets$Window")) (C := RX2) (T := TX2) (N := 7) hx hb hts inX2 tyX2 tyX2_ok nmX2 hown hK hS fa_0 hAh rfl 1 (by decide) (hts (.fieldLink RX2 25 "HalfTickets$Ministry" "windows" "[LHalfTickets$Window;") (List.mem_of_getElem? (i := 12) (by decide +kernel))) (fun _ h9 => h9) rfl hin rfl (by decide +kernel) rfl rfl (Nat.le_of_ble_eq_true rfl) dX2_init_23 (fun H locs fa_0 hz9 ho hS => ?_)
  replace hz := hz9.trans hz
  clear hz9
  have fa_0 : va_at G vwCl (h, .inr (2, [.ref (h + 1), .ref (h + 2), .null, .int 0, .int 0, .int 0, .int 0])) H := fa_0
  replace fa_1 := va_at.kept fa_1 (ho (h + 1) (by omega))
  replace fa_2 := va_at.kept fa_2 (ho (h + 2) (by omega))
  clear ho
  refine lv_aload_n hx hb dX2_init_26 rfl (lv_at hl 0 rfl) ?_
  refine lv_bipush (v := (nI 24)) hx hb dX2_init_27 (by decide) ?_
  refine xk_newq (C := RX4) (h := (h + 3)) (N := 24) hx hb hown (hts (.classLink RX2 29 RX4) (List.mem_of_getElem? (i := 13) (by decide +kernel))) hnw.2.2.2.2.2.1 hK 4 rfl hS hz rfl (by decide) (Nat.le_of_ble_eq_true rfl) (by decide +kernel) (by decide +kernel) dX2_init_29 (fun H fa_3 hz9 ho hS => ?_)
  replace hz := hz9
  clear hz9
  replace fa_0 := va_at.kept fa_0 (ho h (by omega))
  replace fa_1 := va_at.kept fa_1 (ho (h + 1) (by omega))
  replace fa_2 := va_at.kept fa_2 (ho (h + 2) (by omega))
  clear ho
  refine xk_putF (ci := 2) (v := .ref (h + 3)) (ty := .array (.object "HalfTickets$Person")) (C := RX2) (T := TX2) (N := 7) hx hb hts inX2 tyX2 tyX2_ok nmX2 hown hK hS fa_0 hAh rfl 2 (by decide) (hts (.fieldLink RX2 31 "HalfTickets$Ministry" "persons" "[LHalfTickets$Person;") (List.mem_of_getElem? (i := 14) (by decide +kernel))) (fun _ h9 => h9) rfl hin rfl (by decide +kernel) rfl rfl (Nat.le_of_ble_eq_true rfl) dX2_init_32 (fun H locs fa_0 hz9 ho hS => ?_)
  replace hz := hz9.trans hz
  clear hz9
  have fa_0 : va_at G vwCl (h, .inr (2, [.ref (h + 1), .ref (h + 2), .ref (h + 3), .int 0, .int 0, .int 0, .int 0])) H := fa_0
  replace fa_1 := va_at.kept fa_1 (ho (h + 1) (by omega))
  replace fa_2 := va_at.kept fa_2 (ho (h + 2) (by omega))
  replace fa_3 := va_at.kept fa_3 (ho (h + 3) (by omega))
  clear ho
  refine lv_iconst (v := (nI 0)) hx hb dX2_init_35 (by decide) ?_
  refine lv_istore_n (lv' := [(1, .int (nI 0)), (0, .ref h)]) hx hb dX2_init_36 rfl hl (by decide) rfl (fun ls hl => ?_)
  refine xl_upC 6 (fun kk => 3 + 5 * kk) (fun kk => 33 + 59 * kk) (fun kk H locs ls => H.size = (h + 5 * kk + 4) ∧ va_S (xA_k h (h + 1)) s.heap H locs ∧ lv_has ls 2 [(1, .int (nI kk)), (0, .ref h)] ∧ (va_at G vwCl (h, .inr (2, [.ref (h + 1), .ref (h + 2), .ref (h + 3), .int 0, .int 0, .int 0, .int 0])) H) ∧ (va_at G vwCl ((h + 1), .inl (g 0, 3, .inl xs_0)) H) ∧ (va_at G vwCl ((h + 2), .inl (g 3, 6, .inr (.inr (.inr (.inr (fun j => if j < kk then some (h + 5 * j + 4) else none))))))  H) ∧ (va_at G vwCl ((h + 3), .inl (g 4, 24, .inr (.inr (.inr (.inr (fun _ => none))))))  H) ∧ (∀ j, j < kk → xk_W G g (h + 5 * j + 4) (nI 8) H)) (fun H locs ls hI => ?_) (fun k37 H locs ls hk37 hI ih37 => ?_) ⟨(by rw [hz]), hS, lv_sub hl [0, 1] rfl, fa_0, fa_1, (xk_q fa_2 (fun j _ => (if_neg (Nat.not_lt_zero j)).symm)), fa_3, (fun j hj => absurd hj (Nat.not_lt_zero j))⟩ rfl rfl
  · obtain ⟨hz, hS, hl, fa_0, fs, fw, fq, fl⟩ := hI
    refine lv_iload_n hx hb dX2_init_37 rfl (lv_at hl 0 rfl) ?_
    refine lv_aload_n hx hb dX2_init_38 rfl (lv_at hl 1 rfl) ?_
    refine xk_get (ci := 2) (C := RX2) (T := TX2) (N := 7) hx hb hts inX2 hown hK fa_0 rfl 1 (by decide) (hts (.fieldLink RX2 25 "HalfTickets$Ministry" "windows" "[LHalfTickets$Window;") (List.mem_of_getElem? (i := 12) (by decide +kernel))) (fun _ h9 => h9) rfl dX2_init_39 ?_
    refine va_alen hx hb hK (xw_P1 fw) 0 3 rfl rfl (v := nI 6) rfl dX2_init_42 ?_
    refine lv_icmp_ge (tgt := 71) hx hb dX2_init_43 (by decide) (fun c_4 => ?_) (fun c_4 => ?_)
    · refine lv_iconst (v := (nI 0)) hx hb dX2_init_71 (by decide) ?_
      refine lv_istore_n (lv' := [(1, .int (nI 0)), (0, .ref h)]) hx hb dX2_init_72 rfl hl (by decide) rfl (fun ls hl => ?_)
      refine xl_upC 24 (fun kk => 33 + 2 * kk) (fun kk => 387 + 20 * kk) (fun kk H locs ls => H.size = (h + 2 * kk + 34) ∧ va_S (xA_k h (h + 1)) s.heap H locs ∧ lv_has ls 2 [(1, .int (nI kk)), (0, .ref h)] ∧ (va_at G vwCl (h, .inr (2, [.ref (h + 1), .ref (h + 2), .ref (h + 3), .int 0, .int 0, .int 0, .int 0])) H) ∧ (va_at G vwCl ((h + 1), .inl (g 0, 3, .inl xs_0)) H) ∧ (va_at G vwCl ((h + 2), .inl (g 3, 6, .inr (.inr (.inr (.inr (fun j => if j < 6 then some (h + 5 * j + 4) else none))))))  H) ∧ (va_at G vwCl ((h + 3), .inl (g 4, 24, .inr (.inr (.inr (.inr (fun j => if j < kk then some (h + 2 * j + 34) else none))))))  H) ∧ (∀ j, j < 6 → xk_W G g (h + 5 * j + 4) (nI 8) H) ∧ (∀ j, j < kk → xk_P G g (h + 2 * j + 34) (nI j) H)) (fun H locs ls hI => ?_) (fun k73 H locs ls hk73 hI ih73 => ?_) ⟨(by rw [hz]), hS, lv_sub hl [0, 1] rfl, fa_0, fs, fw, (xk_q fq (fun j _ => (if_neg (Nat.not_lt_zero j)).symm)), fl, (fun j hj => absurd hj (Nat.not_lt_zero j))⟩ rfl rfl
      · obtain ⟨hz, hS, hl, fa_0, fs, fw, fq, fl, fm⟩ := hI
        refine lv_iload_n hx hb dX2_init_73 rfl (lv_at hl 0 rfl) ?_
        refine lv_aload_n hx hb dX2_init_74 rfl (lv_at hl 1 rfl) ?_
        refine xk_get (ci := 2) (C := RX2) (T := TX2) (N := 7) hx hb hts inX2 hown hK fa_0 rfl 2 (by decide) (hts (.fieldLink RX2 31 "HalfTickets$Ministry" "persons" "[LHalfTickets$Person;") (List.mem_of_getElem? (i := 14) (by decide +kernel))) (fun _ h9 => h9) rfl dX2_init_75 ?_
        refine va_alen hx hb hK (xw_P1 fq) 0 4 rfl rfl (v := nI 24) rfl dX2_init_78 ?_
        refine lv_icmp_ge (tgt := 102) hx hb dX2_init_79 (by decide) (fun c_5 => ?_) (fun c_5 => ?_)
        · exact W.vret hx hb hr (fun t ht hWm => ⟨⟨(), rfl, trivial, xk_end ht hz (show xk_M G g h H from ⟨fa_0, fs, xk_q fw (fun j hj => by rw [if_pos hj]; congr 1; omega), xk_q fq (fun j hj => by rw [if_pos hj]; congr 1; omega), fl, fm⟩)⟩, hS.F ht⟩) hS.2.2 dX2_init_102
        · exact absurd (nI_le (Nat.le_refl _) (by decide)) c_5
      · obtain ⟨hz, hS, hl, fa_0, fs, fw, fq, fl, fm⟩ := hI
        refine lv_iload_n hx hb dX2_init_73 rfl (lv_at hl 0 rfl) ?_
        refine lv_aload_n hx hb dX2_init_74 rfl (lv_at hl 1 rfl) ?_
        refine xk_get (ci := 2) (C := RX2) (T := TX2) (N := 7) hx hb hts inX2 hown hK fa_0 rfl 2 (by decide) (hts (.fieldLink RX2 31 "HalfTickets$Ministry" "persons" "[LHalfTickets$Person;") (List.mem_of_getElem? (i := 14) (by decide +kernel))) (fun _ h9 => h9) rfl dX2_init_75 ?_
        refine va_alen hx hb hK (xw_P1 fq) 0 4 rfl rfl (v := nI 24) rfl dX2_init_78 ?_
        refine lv_icmp_ge (tgt := 102) hx hb dX2_init_79 (by decide) (fun c_6 => ?_) (fun c_6 => ?_)
        · exact absurd c_6 (nI_ge hk73 (by decide))
        · refine lv_aload_n hx hb dX2_init_82 rfl (lv_at hl 1 rfl) ?_
          refine xk_get (ci := 2) (C := RX2) (T := TX2) (N := 7) hx hb hts inX2 hown hK fa_0 rfl 2 (by decide) (hts (.fieldLink RX2 31 "HalfTickets$Ministry" "persons" "[LHalfTickets$Person;") (List.mem_of_getElem? (i := 14) (by decide +kernel))) (fun _ h9 => h9) rfl dX2_init_83 ?_
          refine lv_iload_n hx hb dX2_init_86 rfl (lv_at hl 0 rfl) ?_
          refine xk_new (h := (h + 2 * k73 + 34)) (ci := 4) (fs := [.int 0, .null, .int 0, .int 0, .int 0, .int 0, .int 0, .int 0, .int 0, .int 0, .int 0, .int 0]) (C := RX4) (T := TX4) (N := 12) hx hb hts inX4 tyX4 tyX4_ok hown (hts (.classLink RX2 29 RX4) (List.mem_of_getElem? (i := 13) (by decide +kernel))) (hts (.instantiable RX4 12) (List.mem_of_getElem? (i := 17) (by decide +kernel))) (hts (.initialized RX4) (List.mem_of_getElem? (i := 18) (by decide +kernel))) hK hS hz rfl (fun j hj => by rcases (show j = 0 ∨ j = 1 ∨ j = 2 ∨ j = 3 ∨ j = 4 ∨ j = 5 ∨ j = 6 ∨ j = 7 ∨ j = 8 ∨ j = 9 ∨ j = 10 ∨ j = 11 by omega) with rfl | rfl | rfl | rfl | rfl | rfl | rfl | rfl | rfl | rfl | rfl | rfl <;> rfl) (by show 33 + 2 * k73 + 1 ≤ 81; omega) (by show 387 + 20 * k73 + 12 ≤ 867; omega) dX2_init_87 (fun H fa_7 hz9 ho hS => ?_)
          replace hz := hz9
          clear hz9
          replace fa_0 := va_at.kept fa_0 (ho h (by omega))
          replace fs := va_at.kept fs (ho (h + 1) (by omega))
          replace fw := va_at.kept fw (ho (h + 2) (by omega))
          replace fq := va_at.kept fq (ho (h + 3) (by omega))
          replace fl : ∀ j, j < 6 → xk_W G g (h + 5 * j + 4) (nI 8) H := fun j hj => (fl j hj).kept (fun q hq => ho q (by omega))
          replace fm : ∀ j, j < k73 → xk_P G g (h + 2 * j + 34) (nI j) H := fun j hj => (fm j hj).kept (fun q hq => ho q (by omega))
          clear ho
          refine lv_dup hx hb dX2_init_90 rfl ?_
          refine lv_iload_n hx hb dX2_init_91 rfl (lv_at hl 0 rfl) ?_
          refine xk_I (As := [.int (nI k73)]) (rest := [.ref (h + 2 * k73 + 34), .int (nI k73), .ref (h + 3)]) (sz := (h + 2 * k73 + 35)) ⟨hx, hb, hml, hown, hts⟩ (k_X4_init l (A := A) (h := (h + 2 * k73 + 34)) (sz := (h + 2 * k73 + 35)) (by omega) (fun q hq => hAA q (hq.elim (fun z => Or.inr (by omega)) (fun z => Or.inr (by omega)))) (nI k73)) (cwI 1 hts gX2_init_X4_init rfl rfl rfl (hts (.initialized RX4) (List.mem_of_getElem? (i := 18) (by decide +kernel))) (hts (.methodLink RX2 38 yX4_init) (List.mem_of_getElem? (i := 36) (by decide +kernel))) (hts (.instanceMethod yX4_init) (List.mem_of_getElem? (i := 37) (by decide +kernel))) rfl (by decide +kernel) ⟨Nat.le_of_ble_eq_true rfl, Nat.le_of_ble_eq_true rfl⟩) hK hst hnw hS hAA hz fa_7 (fun q hq => hq.elim (fun z => Or.inr (by omega)) (fun z => Or.inr (by omega))) rfl hl.1 rfl (Nat.le_of_ble_eq_true rfl) dX2_init_92 ⟨by show 33 + 2 * k73 + 1 + 1 ≤ 81; omega, by show 387 + 20 * k73 + 12 + 8 ≤ 867; omega⟩ (fun H locs fp_8 hz9 ho hS => ?_)
          replace fa_0 := va_at.kept fa_0 (ho h (by omega))
          replace fs := va_at.kept fs (ho (h + 1) (by omega))
          replace fw := va_at.kept fw (ho (h + 2) (by omega))
          replace fq := va_at.kept fq (ho (h + 3) (by omega))
          replace fl : ∀ j, j < 6 → xk_W G g (h + 5 * j + 4) (nI 8) H := fun j hj => (fl j hj).kept (fun q hq => ho q (by omega))
          replace fm : ∀ j, j < k73 → xk_P G g (h + 2 * j + 34) (nI j) H := fun j hj => (fm j hj).kept (fun q hq => ho q (by omega))
          clear ho
          replace hz : H.size = (h + 2 * k73 + 36) := by omega
          clear hz9
          refine xk_astq (r := (RX4, TX4, 12)) hx hb hK hS fq (Or.inr (by omega)) 4 rfl fp_8.1 rfl k73 rfl hk73 (by decide) dX2_init_95 (fun H locs fq hz9 ho hS => ?_)
          replace hz := hz9.trans hz
          clear hz9
          have fq := (show va_at G vwCl _ _ from fq)
          replace fa_0 := va_at.kept fa_0 (ho h (by omega))
          replace fs := va_at.kept fs (ho (h + 1) (by omega))
          replace fw := va_at.kept fw (ho (h + 2) (by omega))
          replace fl : ∀ j, j < 6 → xk_W G g (h + 5 * j + 4) (nI 8) H := fun j hj => (fl j hj).kept (fun q hq => ho q (by omega))
          replace fm : ∀ j, j < k73 → xk_P G g (h + 2 * j + 34) (nI j) H := fun j hj => (fm j hj).kept (fun q hq => ho q (by omega))
          replace fp_8 := fp_8.kept (fun q hq => ho q (by omega))
          clear ho
          refine lv_iinc (v := (nI (k73 + 1))) (lv' := [(1, .int (nI (k73 + 1))), (0, .ref h)]) hx hb dX2_init_96 hl (k := 0) rfl ((nI_1 k73)) (by decide) rfl (fun ls hl => ?_)
          refine lv_goto (tgt := 73) hx hb dX2_init_99 (by decide) ?_
          refine W.cs (cells' := 33 + 2 * (k73 + 1)) (slots' := 387 + 20 * (k73 + 1)) (by show 33 + 2 * k73 + 1 + 1 = _; omega) (by show 387 + 20 * k73 + 12 + 8 = _; omega) ?_
          exact ih73 _ _ _ ⟨(by rw [hz]; omega), hS, lv_sub hl [0, 1] rfl, fa_0, fs, fw, (xk_q fq (fun j _ => xk_up (fun j => h + 2 * j + 34) k73 j)), fl, (xk_all fm fp_8)⟩
    · exact absurd (nI_le (Nat.le_refl _) (by decide)) c_4
  · obtain ⟨hz, hS, hl, fa_0, fs, fw, fq, fl⟩ := hI
    refine lv_iload_n hx hb dX2_init_37 rfl (lv_at hl 0 rfl) ?_
    refine lv_aload_n hx hb dX2_init_38 rfl (lv_at hl 1 rfl) ?_
    refine xk_get (ci := 2) (C := RX2) (T := TX2) (N := 7) hx hb hts inX2 hown hK fa_0 rfl 1 (by decide) (hts (.fieldLink RX2 25 "HalfTickets$Ministry" "windows" "[LHalfTickets$Window;") (List.mem_of_getElem? (i := 12) (by decide +kernel))) (fun _ h9 => h9) rfl dX2_init_39 ?_
    refine va_alen hx hb hK (xw_P1 fw) 0 3 rfl rfl (v := nI 6) rfl dX2_init_42 ?_
    refine lv_icmp_ge (tgt := 71) hx hb dX2_init_43 (by decide) (fun c_9 => ?_) (fun c_9 => ?_)
    · exact absurd c_9 (nI_ge hk37 (by decide))
    · refine lv_aload_n hx hb dX2_init_46 rfl (lv_at hl 1 rfl) ?_
      refine xk_get (ci := 2) (C := RX2) (T := TX2) (N := 7) hx hb hts inX2 hown hK fa_0 rfl 1 (by decide) (hts (.fieldLink RX2 25 "HalfTickets$Ministry" "windows" "[LHalfTickets$Window;") (List.mem_of_getElem? (i := 12) (by decide +kernel))) (fun _ h9 => h9) rfl dX2_init_47 ?_
      refine lv_iload_n hx hb dX2_init_50 rfl (lv_at hl 0 rfl) ?_
      refine xk_new (h := (h + 5 * k37 + 4)) (ci := 5) (fs := [.int 0, .int 0, .int 0, .int 0, .int 0, .null, .null]) (C := RX5) (T := TX5) (N := 7) hx hb hts inX5 tyX5 tyX5_ok hown (hts (.classLink RX2 23 RX5) (List.mem_of_getElem? (i := 11) (by decide +kernel))) (hts (.instantiable RX5 7) (List.mem_of_getElem? (i := 15) (by decide +kernel))) (hts (.initialized RX5) (List.mem_of_getElem? (i := 16) (by decide +kernel))) hK hS hz rfl (fun j hj => by rcases (show j = 0 ∨ j = 1 ∨ j = 2 ∨ j = 3 ∨ j = 4 ∨ j = 5 ∨ j = 6 by omega) with rfl | rfl | rfl | rfl | rfl | rfl | rfl <;> rfl) (by show 3 + 5 * k37 + 1 ≤ 81; omega) (by show 33 + 59 * k37 + 7 ≤ 867; omega) dX2_init_51 (fun H fa_10 hz9 ho hS => ?_)
      replace hz := hz9
      clear hz9
      replace fa_0 := va_at.kept fa_0 (ho h (by omega))
      replace fs := va_at.kept fs (ho (h + 1) (by omega))
      replace fw := va_at.kept fw (ho (h + 2) (by omega))
      replace fq := va_at.kept fq (ho (h + 3) (by omega))
      replace fl : ∀ j, j < k37 → xk_W G g (h + 5 * j + 4) (nI 8) H := fun j hj => (fl j hj).kept (fun q hq => ho q (by omega))
      clear ho
      refine lv_dup hx hb dX2_init_54 rfl ?_
      refine lv_aload_n hx hb dX2_init_55 rfl (lv_at hl 1 rfl) ?_
      refine xk_get (ci := 2) (C := RX2) (T := TX2) (N := 7) hx hb hts inX2 hown hK fa_0 rfl 0 (by decide) (hts (.fieldLink RX2 18 "HalfTickets$Ministry" "settings" "[I") (List.mem_of_getElem? (i := 10) (by decide +kernel))) (fun _ h9 => h9) rfl dX2_init_56 ?_
      refine lv_iconst (v := (nI 1)) hx hb dX2_init_59 (by decide) ?_
      refine va_iald hx hb hK (xw_P1 fs) 0 0 rfl rfl (nI_in (by decide) (by decide)) dX2_init_60 ?_
      rw [show xs_0 (nI 1).toNatClampNeg = nI 8 from by decide]
      refine xk_I (As := [.int (nI 8)]) (rest := [.ref (h + 5 * k37 + 4), .int (nI k37), .ref (h + 2)]) (sz := (h + 5 * k37 + 5)) ⟨hx, hb, hml, hown, hts⟩ (k_X5_init l (A := A) (h := (h + 5 * k37 + 4)) (sz := (h + 5 * k37 + 5)) (by omega) (fun q hq => hAA q (hq.elim (fun z => Or.inr (by omega)) (fun z => Or.inr (by omega)))) (nI 8)) (cwI 1 hts gX2_init_X5_init rfl rfl rfl (hts (.initialized RX5) (List.mem_of_getElem? (i := 16) (by decide +kernel))) (hts (.methodLink RX2 35 yX5_init) (List.mem_of_getElem? (i := 19) (by decide +kernel))) (hts (.instanceMethod yX5_init) (List.mem_of_getElem? (i := 20) (by decide +kernel))) rfl (by decide +kernel) ⟨Nat.le_of_ble_eq_true rfl, Nat.le_of_ble_eq_true rfl⟩) hK hst hnw hS hAA hz fa_10 (fun q hq => hq.elim (fun z => Or.inr (by omega)) (fun z => Or.inr (by omega))) rfl hl.1 rfl (Nat.le_of_ble_eq_true rfl) dX2_init_61 ⟨by show 3 + 5 * k37 + 1 + 4 ≤ 81; omega, by show 33 + 59 * k37 + 7 + 52 ≤ 867; omega⟩ (fun H locs fp_11 hz9 ho hS => ?_)
      replace fa_0 := va_at.kept fa_0 (ho h (by omega))
      replace fs := va_at.kept fs (ho (h + 1) (by omega))
      replace fw := va_at.kept fw (ho (h + 2) (by omega))
      replace fq := va_at.kept fq (ho (h + 3) (by omega))
      replace fl : ∀ j, j < k37 → xk_W G g (h + 5 * j + 4) (nI 8) H := fun j hj => (fl j hj).kept (fun q hq => ho q (by omega))
      clear ho
      replace hz : H.size = (h + 5 * k37 + 9) := by omega
      clear hz9
      refine xk_astq (r := (RX5, TX5, 7)) hx hb hK hS fw (Or.inr (by omega)) 3 rfl fp_11.1 rfl k37 rfl hk37 (by decide) dX2_init_64 (fun H locs fw hz9 ho hS => ?_)
      replace hz := hz9.trans hz
      clear hz9
      have fw := (show va_at G vwCl _ _ from fw)
      replace fa_0 := va_at.kept fa_0 (ho h (by omega))
      replace fs := va_at.kept fs (ho (h + 1) (by omega))
      replace fq := va_at.kept fq (ho (h + 3) (by omega))
      replace fl : ∀ j, j < k37 → xk_W G g (h + 5 * j + 4) (nI 8) H := fun j hj => (fl j hj).kept (fun q hq => ho q (by omega))
      replace fp_11 := fp_11.kept (fun q hq => ho q (by omega))
      clear ho
      refine lv_iinc (v := (nI (k37 + 1))) (lv' := [(1, .int (nI (k37 + 1))), (0, .ref h)]) hx hb dX2_init_65 hl (k := 0) rfl ((nI_1 k37)) (by decide) rfl (fun ls hl => ?_)
      refine lv_goto (tgt := 37) hx hb dX2_init_68 (by decide) ?_
      refine W.cs (cells' := 3 + 5 * (k37 + 1)) (slots' := 33 + 59 * (k37 + 1)) (by show 3 + 5 * k37 + 1 + 4 = _; omega) (by show 33 + 59 * k37 + 7 + 52 = _; omega) ?_
      exact ih37 _ _ _ ⟨(by rw [hz]; omega), hS, lv_sub hl [0, 1] rfl, fa_0, fs, (xk_q fw (fun j _ => xk_up (fun j => h + 5 * j + 4) k37 j)), fq, (xk_all fl fp_11)⟩

set_option maxHeartbeats 4000000 in
set_option maxRecDepth 100000 in
/-- History() -/
theorem k_X0_init (l : Launch) {G : va_G} {g : Nat → ClassId} {t0 : Nat → Nat} {A : Nat → Prop} {h sz : Nat} (hh : h + 1 = sz) (hAA : ∀ q, xA_k h sz q → A q)  : Met l yX0_init wsX0_init ({ frames := 4, cells := 493, slots := 5250, locals := 150 }) (va_Pc [.ref h] (xK_p G g t0 A sz h 0 [.null, .int 0, .int 0])) (va_Qv (fun _ : Unit => True) (fun _ t => t.heap.size = sz + 493 ∧ xk_H G g h t.heap) (xA_k h sz)) 493 5250 (xA_k h sz) := by
  subst hh
  refine Met.ofW (cc := cX0_init) (maxL := 2) (ret := none) (by decide) rfl ?_
  intro p e s m args below meth c s₁ B hml hv
  obtain ⟨rfl, hz, fa_0, hK, hst, hnw⟩ := hv
  have hx := B.exec
  have hb := B.bytes
  have hr := B.returns
  have hts := atoms_spec (ws := wsX0_init) B.pre
  have hown : s.vm.findClass RX0 = some m.cls := findClass_of_methodNamed B.named
  have hlocks := B.notSynchronized
  have hin : meth.name = "<init>" := (name_of_methodNamed B.named B.method).1
  have hS : va_S (xA_k h (h + 1)) s.heap s.heap [] := va_S.rf
  have hAh : xA_k h (h + 1) h := Or.inl rfl
  have inX0 : ∀ w ∈ u_ws RX0 TX0 3, w ∈ wsX0_init := by decide +kernel
  have inX2 : ∀ w ∈ u_ws RX2 TX2 7, w ∈ wsX0_init := by decide +kernel
  have hl := lv_entry ([.ref h]) (n := 2) (Nat.le_of_ble_eq_true rfl)
  rw [lg_entry_eq]
  generalize (lg_sl ([.ref h]) ++ List.replicate (2 - (lg_sl ([.ref h])).length) Slot.unset).toArray = ls at hl ⊢
  have hl : lv_has ls 2 [(0, .ref h)] := hl
  refine lv_aload_n hx hb dX0_init_0 rfl (lv_at hl 0 rfl) ?_
  refine W.objInit hx hb hown (hts (.methodLink RX0 3 objectInit) (List.mem_of_getElem? (i := 1) (by decide +kernel))) (hts (.instanceMethod objectInit) (List.mem_of_getElem? (i := 2) (by decide +kernel))) (hts (.code objectInit ⟨#[0xb1]⟩ 1 none) (List.mem_of_getElem? (i := 3) (by decide +kernel))) rfl (by rw [hml]; exact hl.1) rfl dX0_init_1 (Nat.le_of_ble_eq_true rfl) (Nat.le_of_ble_eq_true rfl) ?_
  refine W.eq (g2 := F0 m 4 ls []) rfl ?_
  refine lv_aload_n hx hb dX0_init_4 rfl (lv_at hl 0 rfl) ?_
  refine lv_bipush (v := (nI 6)) hx hb dX0_init_5 (by decide) ?_
  refine xk_newq (C := RX2) (h := (h + 1)) (N := 6) hx hb hown (hts (.classLink RX0 9 RX2) (List.mem_of_getElem? (i := 4) (by decide +kernel))) hnw.2.2.2.2.1 hK 5 rfl hS hz rfl (by decide) (Nat.le_of_ble_eq_true rfl) (by decide +kernel) (by decide +kernel) dX0_init_7 (fun H fa_1 hz9 ho hS => ?_)
  replace hz := hz9
  clear hz9
  replace fa_0 := va_at.kept fa_0 (ho h (by omega))
  clear ho
  refine xk_putF (ci := 0) (v := .ref (h + 1)) (ty := .array (.object "HalfTickets$Ministry")) (C := RX0) (T := TX0) (N := 3) hx hb hts inX0 tyX0 tyX0_ok nmX0 hown hK hS fa_0 hAh rfl 0 (by decide) (hts (.fieldLink RX0 11 "HalfTickets$History" "states" "[LHalfTickets$Ministry;") (List.mem_of_getElem? (i := 5) (by decide +kernel))) (fun _ h9 => h9) rfl hin rfl (by decide +kernel) rfl rfl (Nat.le_of_ble_eq_true rfl) dX0_init_10 (fun H locs fa_0 hz9 ho hS => ?_)
  replace hz := hz9.trans hz
  clear hz9
  have fa_0 : va_at G vwCl (h, .inr (0, [.ref (h + 1), .int 0, .int 0])) H := fa_0
  replace fa_1 := va_at.kept fa_1 (ho (h + 1) (by omega))
  clear ho
  refine lv_iconst (v := (nI 0)) hx hb dX0_init_13 (by decide) ?_
  refine lv_istore_n (lv' := [(1, .int (nI 0)), (0, .ref h)]) hx hb dX0_init_14 rfl hl (by decide) rfl (fun ls hl => ?_)
  refine xl_upC 6 (fun kk => 1 + 82 * kk) (fun kk => 6 + 874 * kk) (fun kk H locs ls => H.size = (h + 82 * kk + 2) ∧ va_S (xA_k h (h + 1)) s.heap H locs ∧ lv_has ls 2 [(1, .int (nI kk)), (0, .ref h)] ∧ (va_at G vwCl (h, .inr (0, [.ref (h + 1), .int 0, .int 0])) H) ∧ (va_at G vwCl ((h + 1), .inl (g 5, 6, .inr (.inr (.inr (.inr (fun j => if j < kk then some (h + 82 * j + 2) else none))))))  H) ∧ (∀ j, j < kk → xk_M G g (h + 82 * j + 2) H)) (fun H locs ls hI => ?_) (fun k15 H locs ls hk15 hI ih15 => ?_) ⟨(by rw [hz]), hS, lv_sub hl [0, 1] rfl, fa_0, (xk_q fa_1 (fun j _ => (if_neg (Nat.not_lt_zero j)).symm)), (fun j hj => absurd hj (Nat.not_lt_zero j))⟩ rfl rfl
  · obtain ⟨hz, hS, hl, fa_0, fq, fl⟩ := hI
    refine lv_iload_n hx hb dX0_init_15 rfl (lv_at hl 0 rfl) ?_
    refine lv_aload_n hx hb dX0_init_16 rfl (lv_at hl 1 rfl) ?_
    refine xk_get (ci := 0) (C := RX0) (T := TX0) (N := 3) hx hb hts inX0 hown hK fa_0 rfl 0 (by decide) (hts (.fieldLink RX0 11 "HalfTickets$History" "states" "[LHalfTickets$Ministry;") (List.mem_of_getElem? (i := 5) (by decide +kernel))) (fun _ h9 => h9) rfl dX0_init_17 ?_
    refine va_alen hx hb hK (xw_P1 fq) 0 5 rfl rfl (v := nI 6) rfl dX0_init_20 ?_
    refine lv_icmp_ge (tgt := 43) hx hb dX0_init_21 (by decide) (fun c_2 => ?_) (fun c_2 => ?_)
    · exact W.vret hx hb hr (fun t ht hWm => ⟨⟨(), rfl, trivial, xk_end ht hz (show xk_H G g h H from ⟨fa_0, xk_q fq (fun j hj => by rw [if_pos hj]; congr 1; omega), fl⟩)⟩, hS.F ht⟩) hS.2.2 dX0_init_43
    · exact absurd (nI_le (Nat.le_refl _) (by decide)) c_2
  · obtain ⟨hz, hS, hl, fa_0, fq, fl⟩ := hI
    refine lv_iload_n hx hb dX0_init_15 rfl (lv_at hl 0 rfl) ?_
    refine lv_aload_n hx hb dX0_init_16 rfl (lv_at hl 1 rfl) ?_
    refine xk_get (ci := 0) (C := RX0) (T := TX0) (N := 3) hx hb hts inX0 hown hK fa_0 rfl 0 (by decide) (hts (.fieldLink RX0 11 "HalfTickets$History" "states" "[LHalfTickets$Ministry;") (List.mem_of_getElem? (i := 5) (by decide +kernel))) (fun _ h9 => h9) rfl dX0_init_17 ?_
    refine va_alen hx hb hK (xw_P1 fq) 0 5 rfl rfl (v := nI 6) rfl dX0_init_20 ?_
    refine lv_icmp_ge (tgt := 43) hx hb dX0_init_21 (by decide) (fun c_3 => ?_) (fun c_3 => ?_)
    · exact absurd c_3 (nI_ge hk15 (by decide))
    · refine lv_aload_n hx hb dX0_init_24 rfl (lv_at hl 1 rfl) ?_
      refine xk_get (ci := 0) (C := RX0) (T := TX0) (N := 3) hx hb hts inX0 hown hK fa_0 rfl 0 (by decide) (hts (.fieldLink RX0 11 "HalfTickets$History" "states" "[LHalfTickets$Ministry;") (List.mem_of_getElem? (i := 5) (by decide +kernel))) (fun _ h9 => h9) rfl dX0_init_25 ?_
      refine lv_iload_n hx hb dX0_init_28 rfl (lv_at hl 0 rfl) ?_
      refine xk_new (h := (h + 82 * k15 + 2)) (ci := 2) (fs := [.null, .null, .null, .int 0, .int 0, .int 0, .int 0]) (C := RX2) (T := TX2) (N := 7) hx hb hts inX2 tyX2 tyX2_ok hown (hts (.classLink RX0 9 RX2) (List.mem_of_getElem? (i := 4) (by decide +kernel))) (hts (.instantiable RX2 7) (List.mem_of_getElem? (i := 6) (by decide +kernel))) (hts (.initialized RX2) (List.mem_of_getElem? (i := 7) (by decide +kernel))) hK hS hz rfl (fun j hj => by rcases (show j = 0 ∨ j = 1 ∨ j = 2 ∨ j = 3 ∨ j = 4 ∨ j = 5 ∨ j = 6 by omega) with rfl | rfl | rfl | rfl | rfl | rfl | rfl <;> rfl) (by show 1 + 82 * k15 + 1 ≤ 493; omega) (by show 6 + 874 * k15 + 7 ≤ 5250; omega) dX0_init_29 (fun H fa_4 hz9 ho hS => ?_)
      replace hz := hz9
      clear hz9
      replace fa_0 := va_at.kept fa_0 (ho h (by omega))
      replace fq := va_at.kept fq (ho (h + 1) (by omega))
      replace fl : ∀ j, j < k15 → xk_M G g (h + 82 * j + 2) H := fun j hj => (fl j hj).kept (fun q hq => ho q (by omega))
      clear ho
      refine lv_dup hx hb dX0_init_32 rfl ?_
      refine xk_I (As := []) (rest := [.ref (h + 82 * k15 + 2), .int (nI k15), .ref (h + 1)]) (sz := (h + 82 * k15 + 3)) ⟨hx, hb, hml, hown, hts⟩ (k_X2_init l (A := A) (h := (h + 82 * k15 + 2)) (sz := (h + 82 * k15 + 3)) (by omega) (fun q hq => hAA q (hq.elim (fun z => Or.inr (by omega)) (fun z => Or.inr (by omega))))) (cwI 0 hts gX0_init_X2_init rfl rfl rfl (hts (.initialized RX2) (List.mem_of_getElem? (i := 7) (by decide +kernel))) (hts (.methodLink RX0 17 yX2_init) (List.mem_of_getElem? (i := 8) (by decide +kernel))) (hts (.instanceMethod yX2_init) (List.mem_of_getElem? (i := 9) (by decide +kernel))) rfl (by decide +kernel) ⟨Nat.le_of_ble_eq_true rfl, Nat.le_of_ble_eq_true rfl⟩) hK hst hnw hS hAA hz fa_4 (fun q hq => hq.elim (fun z => Or.inr (by omega)) (fun z => Or.inr (by omega))) rfl hl.1 rfl (Nat.le_of_ble_eq_true rfl) dX0_init_33 ⟨by show 1 + 82 * k15 + 1 + 81 ≤ 493; omega, by show 6 + 874 * k15 + 7 + 867 ≤ 5250; omega⟩ (fun H locs fp_5 hz9 ho hS => ?_)
      replace fa_0 := va_at.kept fa_0 (ho h (by omega))
      replace fq := va_at.kept fq (ho (h + 1) (by omega))
      replace fl : ∀ j, j < k15 → xk_M G g (h + 82 * j + 2) H := fun j hj => (fl j hj).kept (fun q hq => ho q (by omega))
      clear ho
      replace hz : H.size = (h + 82 * k15 + 84) := by omega
      clear hz9
      refine xk_astq (r := (RX2, TX2, 7)) hx hb hK hS fq (Or.inr (by omega)) 5 rfl fp_5.1 rfl k15 rfl hk15 (by decide) dX0_init_36 (fun H locs fq hz9 ho hS => ?_)
      replace hz := hz9.trans hz
      clear hz9
      have fq := (show va_at G vwCl _ _ from fq)
      replace fa_0 := va_at.kept fa_0 (ho h (by omega))
      replace fl : ∀ j, j < k15 → xk_M G g (h + 82 * j + 2) H := fun j hj => (fl j hj).kept (fun q hq => ho q (by omega))
      replace fp_5 := fp_5.kept (fun q hq => ho q (by omega))
      clear ho
      refine lv_iinc (v := (nI (k15 + 1))) (lv' := [(1, .int (nI (k15 + 1))), (0, .ref h)]) hx hb dX0_init_37 hl (k := 0) rfl ((nI_1 k15)) (by decide) rfl (fun ls hl => ?_)
      refine lv_goto (tgt := 15) hx hb dX0_init_40 (by decide) ?_
      refine W.cs (cells' := 1 + 82 * (k15 + 1)) (slots' := 6 + 874 * (k15 + 1)) (by show 1 + 82 * k15 + 1 + 81 = _; omega) (by show 6 + 874 * k15 + 7 + 867 = _; omega) ?_
      exact ih15 _ _ _ ⟨(by rw [hz]; omega), hS, lv_sub hl [0, 1] rfl, fa_0, (xk_q fq (fun j _ => xk_up (fun j => h + 82 * j + 2) k15 j)), (xk_all fl fp_5)⟩
