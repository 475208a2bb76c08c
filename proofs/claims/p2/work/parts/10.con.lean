set_option maxHeartbeats 4000000 in
set_option maxRecDepth 100000 in
theorem c_X3_init_0 (l : Launch) (dC : Nat → ClassId) (dI : Nat → Nat → Nat) (q0 : Nat) (sz : Nat) : Met l yX3_init (.code yX3_init cX3_init 2 none :: bigW) { frames := 1, cells := 1, slots := 20000, locals := 20 } (va_Pc [.ref q0, .int 20000] (q_In dC dI [(q0, .inr (3, [.null, .int 0]))] [] sz)) (va_Qv (fun _ : Unit => True) (fun _ t => ∃ (q101 : Nat), va_P (dC, dI) classes [(q0, .inr (3, [.ref q101, .int 0]))] t.heap ∧ va_K (dC, dI) classes [] t ∧ va_D (va_A [(q0, .inr (3, [.null, .int 0]))] sz) [(q0, .inr (3, [.ref q101, .int 0]))]) (va_A [(q0, .inr (3, [.null, .int 0]))] sz)) 1 20000 (va_A [(q0, .inr (3, [.null, .int 0]))] sz) := by
  refine Met.ofW (cc := cX3_init) (maxL := 2) (ret := none) (by decide) rfl ?_
  intro p e s m args below meth c s₁ B hml hv
  obtain ⟨rfl, hsz, hP, hK, hD0, hE⟩ := hv
  have hx := B.exec
  have hb := B.bytes
  have hr := B.returns
  have hts := atoms_spec (ws := .code yX3_init cX3_init 2 none :: bigW) B.pre
  have hown : s.vm.findClass RX3 = some m.cls := findClass_of_methodNamed B.named
  have hlocks := B.notSynchronized
  have hin : meth.name = "<init>" := (name_of_methodNamed B.named B.method).1
  subst hsz
  have hD := hD0.self (sz := s.heap.size)
  generalize hAe : va_A [(q0, .inr (3, [.null, .int 0]))] s.heap.size = A at hD hE ⊢
  have hN : q_N s := hE.2.2.2.1
  have hA : ∀ q : Nat, s.heap.size ≤ q → A q := fun q h => by rw [← hAe]; exact Or.inr h
  have hS : va_S A s.heap s.heap [] := va_S.rf
  have hP : va_P (dC, dI) classes [(q0, .inr (3, [.null, .int 0]))] s.heap := hP
  have hl := lv_entry ([.ref q0, .int 20000]) (n := 2) (Nat.le_of_ble_eq_true rfl)
  rw [lg_entry_eq]
  generalize (lg_sl ([.ref q0, .int 20000]) ++ List.replicate (2 - (lg_sl ([.ref q0, .int 20000])).length) Slot.unset).toArray = ls at hl ⊢
  have hl : lv_has ls 2 [(0, .ref q0), (1, .int 20000)] := hl
  refine lv_aload_n hx hb dX3_init_0 rfl (lv_at hl 0 rfl) ?_
  refine W.objInit hx hb hown (hts _ (mc m_9)) (hts _ (mc m_1)) (hts _ (mc m_2)) rfl (by rw [hml]; exact hl.1) rfl dX3_init_1 (Nat.le_of_ble_eq_true rfl) (Nat.le_of_ble_eq_true rfl) ?_
  refine W.eq (g2 := F0 m 4 ls []) rfl ?_
  refine lv_aload_n hx hb dX3_init_4 rfl (lv_at hl 0 rfl) ?_
  refine lv_iload_n hx hb dX3_init_5 rfl (lv_at hl 1 rfl) ?_
  refine lv_if_le (tgt := 13) hx hb dX3_init_6 (by decide) (fun c9 => absurd c9 (by decide)) (fun _ => ?_)
  refine lv_iload_n hx hb dX3_init_9 rfl (lv_at hl 1 rfl) ?_
  refine lv_goto (tgt := 14) hx hb dX3_init_10 (by decide) ?_
  refine va_newa (atype := .byte) (ty := .byte) (N' := 20000) (a0 := (20000, .inl (fun _ => 0))) hx hb (hts _ (mc m_3)) rfl hK hP hD hS hA (fun _ => rfl) (by decide) (by decide) (by decide) (Nat.le_of_ble_eq_true rfl) (Nat.le_of_ble_eq_true rfl) dX3_init_14 (fun q101 k102 H hK hP hD hS => ?_)
  have hP : va_P (dC, dI) classes [(q0, .inr (3, [.null, .int 0])), (q101, .inl (k102, 20000, .inl (fun _ => 0)))] H := hP
  have hD : va_D A [(q0, .inr (3, [.null, .int 0])), (q101, .inl (k102, 20000, .inl (fun _ => 0)))] := hD
  have hK : va_K (dC, dI) classes [(k102, .byte)] s := hK
  refine W.widen (k := 1) (n := 20000) (Nat.le_of_ble_eq_true rfl) (Nat.le_of_ble_eq_true rfl) ?_
  refine va_putF (D := (dC, dI)) (ci := 3) (v := .ref q101) (ty := .array .byte) (C := RX3) (T := TX3) (N := 2) hx hb hts (fun w h => mc (in_X3 w h)) tyX3 tyX3_ok nmX3 hown hK hP hD hS 0 rfl rfl 0 (by decide) (hts _ (mc m_10)) (fun _ h9 => h9) rfl hin rfl (by decide +kernel) (by first | rfl | decide) (by first | rfl | decide) (Nat.le_of_ble_eq_true rfl) dX3_init_16 (fun H locs hP hD hS => ?_)
  have hP : va_P (dC, dI) classes [(q0, .inr (3, [.ref q101, .int 0])), (q101, .inl (k102, 20000, .inl (fun _ => 0)))] H := hP
  have hD : va_D A [(q0, .inr (3, [.ref q101, .int 0])), (q101, .inl (k102, 20000, .inl (fun _ => 0)))] := hD
  have hP := hP.sub (ws' := [(q0, .inr (3, [.ref q101, .int 0]))]) [0] rfl
  have hD := hD.sub (ws' := [(q0, .inr (3, [.ref q101, .int 0]))]) [0] (by decide) rfl
  have hK := hK.sub (tys' := []) [] rfl
  refine lv_aload_n hx hb dX3_init_19 rfl (lv_at hl 0 rfl) ?_
  refine lv_iconst (v := 0) hx hb dX3_init_20 (by decide) ?_
  refine va_put (D := (dC, dI)) (ci := 3) (v := .int 0) (ty := .int) (C := RX3) (T := TX3) (N := 2) hx hb hts (fun w h => mc (in_X3 w h)) tyX3 tyX3_ok nmX3 hown hK hP hD hS 0 rfl rfl 1 (by decide) (hts _ (mc m_11)) (fun _ h9 => h9) rfl (by decide +kernel) (by first | rfl | decide) (by first | rfl | decide) (Nat.le_of_ble_eq_true rfl) dX3_init_21 (fun H locs hP hD hS => ?_)
  have hP : va_P (dC, dI) classes [(q0, .inr (3, [.ref q101, .int 0]))] H := hP
  have hD : va_D A [(q0, .inr (3, [.ref q101, .int 0]))] := hD
  exact W.vret hx hb hr (fun t ht hW => ⟨⟨(), rfl, trivial, q101, by rw [ht]; exact hP, va_K.moved hW.alike hK, hD⟩, hS.F ht⟩) hS.2.2 dX3_init_24
set_option maxHeartbeats 4000000 in
set_option maxRecDepth 100000 in
theorem c_X10_init_0 (l : Launch) (dC : Nat → ClassId) (dI : Nat → Nat → Nat) (q0 : Nat) (sz : Nat) : Met l yX10_init (.code yX10_init cX10_init 1 none :: bigW) { frames := 1, cells := 7, slots := 10600, locals := 20 } (va_Pc [.ref q0] (q_In dC dI [(q0, .inr (10, [.null, .null, .null, .null, .null, .null, .null, .int 0, .int 0]))] [] sz)) (va_Qv (fun _ : Unit => True) (fun _ t => ∃ (q101 : Nat) (q103 : Nat) (q105 : Nat) (q107 : Nat) (q109 : Nat) (q111 : Nat) (q113 : Nat) (k102 : ClassId) (k104 : ClassId) (k106 : ClassId) (k108 : ClassId) (k110 : ClassId) (k112 : ClassId), va_P (dC, dI) classes [(q0, .inr (10, [.ref q101, .ref q103, .ref q105, .ref q107, .ref q109, .ref q111, .ref q113, .int 0, .int 0])), (q101, .inl (k102, 1600, .inl (fun _ => 0))), (q103, .inl (k104, 1600, .inl (fun _ => 0))), (q105, .inl (k106, 1600, .inl (fun _ => 0))), (q107, .inl (k108, 1600, .inl (fun _ => 0))), (q109, .inl (k110, 1600, .inl (fun _ => 0))), (q111, .inl (k112, 1600, .inl (fun _ => 0)))] t.heap ∧ va_K (dC, dI) classes [(k102, .int), (k104, .int), (k106, .int), (k108, .int), (k110, .int), (k112, .int)] t ∧ va_D (va_A [(q0, .inr (10, [.null, .null, .null, .null, .null, .null, .null, .int 0, .int 0]))] sz) [(q0, .inr (10, [.ref q101, .ref q103, .ref q105, .ref q107, .ref q109, .ref q111, .ref q113, .int 0, .int 0])), (q101, .inl (k102, 1600, .inl (fun _ => 0))), (q103, .inl (k104, 1600, .inl (fun _ => 0))), (q105, .inl (k106, 1600, .inl (fun _ => 0))), (q107, .inl (k108, 1600, .inl (fun _ => 0))), (q109, .inl (k110, 1600, .inl (fun _ => 0))), (q111, .inl (k112, 1600, .inl (fun _ => 0)))]) (va_A [(q0, .inr (10, [.null, .null, .null, .null, .null, .null, .null, .int 0, .int 0]))] sz)) 7 10600 (va_A [(q0, .inr (10, [.null, .null, .null, .null, .null, .null, .null, .int 0, .int 0]))] sz) := by
  refine Met.ofW (cc := cX10_init) (maxL := 1) (ret := none) (by decide) rfl ?_
  intro p e s m args below meth c s₁ B hml hv
  obtain ⟨rfl, hsz, hP, hK, hD0, hE⟩ := hv
  have hx := B.exec
  have hb := B.bytes
  have hr := B.returns
  have hts := atoms_spec (ws := .code yX10_init cX10_init 1 none :: bigW) B.pre
  have hown : s.vm.findClass RX10 = some m.cls := findClass_of_methodNamed B.named
  have hlocks := B.notSynchronized
  have hin : meth.name = "<init>" := (name_of_methodNamed B.named B.method).1
  subst hsz
  have hD := hD0.self (sz := s.heap.size)
  generalize hAe : va_A [(q0, .inr (10, [.null, .null, .null, .null, .null, .null, .null, .int 0, .int 0]))] s.heap.size = A at hD hE ⊢
  have hN : q_N s := hE.2.2.2.1
  have hA : ∀ q : Nat, s.heap.size ≤ q → A q := fun q h => by rw [← hAe]; exact Or.inr h
  have hS : va_S A s.heap s.heap [] := va_S.rf
  have hP : va_P (dC, dI) classes [(q0, .inr (10, [.null, .null, .null, .null, .null, .null, .null, .int 0, .int 0]))] s.heap := hP
  have hl := lv_entry ([.ref q0]) (n := 1) (Nat.le_of_ble_eq_true rfl)
  rw [lg_entry_eq]
  generalize (lg_sl ([.ref q0]) ++ List.replicate (1 - (lg_sl ([.ref q0])).length) Slot.unset).toArray = ls at hl ⊢
  have hl : lv_has ls 1 [(0, .ref q0)] := hl
  refine lv_aload_n hx hb dX10_init_0 rfl (lv_at hl 0 rfl) ?_
  refine W.objInit hx hb hown (hts _ (mc m_38)) (hts _ (mc m_1)) (hts _ (mc m_2)) rfl (by rw [hml]; exact hl.1) rfl dX10_init_1 (Nat.le_of_ble_eq_true rfl) (Nat.le_of_ble_eq_true rfl) ?_
  refine W.eq (g2 := F0 m 4 ls []) rfl ?_
  refine lv_aload_n hx hb dX10_init_4 rfl (lv_at hl 0 rfl) ?_
  refine lv_sipush (v := 1600) hx hb dX10_init_5 (by decide) ?_
  refine va_newa (atype := .int) (ty := .int) (N' := 1600) (a0 := (1600, .inl (fun _ => 0))) hx hb (hts _ (mc m_22)) rfl hK hP hD hS hA (fun _ => rfl) (by decide) (by decide) (by decide) (Nat.le_of_ble_eq_true rfl) (Nat.le_of_ble_eq_true rfl) dX10_init_8 (fun q101 k102 H hK hP hD hS => ?_)
  have hP : va_P (dC, dI) classes [(q0, .inr (10, [.null, .null, .null, .null, .null, .null, .null, .int 0, .int 0])), (q101, .inl (k102, 1600, .inl (fun _ => 0)))] H := hP
  have hD : va_D A [(q0, .inr (10, [.null, .null, .null, .null, .null, .null, .null, .int 0, .int 0])), (q101, .inl (k102, 1600, .inl (fun _ => 0)))] := hD
  have hK : va_K (dC, dI) classes [(k102, .int)] s := hK
  refine W.widen (k := 1) (n := 1600) (Nat.le_of_ble_eq_true rfl) (Nat.le_of_ble_eq_true rfl) ?_
  refine va_putF (D := (dC, dI)) (ci := 10) (v := .ref q101) (ty := .array .int) (C := RX10) (T := TX10) (N := 9) hx hb hts (fun w h => mc (in_X10 w h)) tyX10 tyX10_ok nmX10 hown hK hP hD hS 0 rfl rfl 0 (by decide) (hts _ (mc m_39)) (fun _ h9 => h9) rfl hin rfl (by decide +kernel) (by first | rfl | decide) (by first | rfl | decide) (Nat.le_of_ble_eq_true rfl) dX10_init_10 (fun H locs hP hD hS => ?_)
  have hP : va_P (dC, dI) classes [(q0, .inr (10, [.ref q101, .null, .null, .null, .null, .null, .null, .int 0, .int 0])), (q101, .inl (k102, 1600, .inl (fun _ => 0)))] H := hP
  have hD : va_D A [(q0, .inr (10, [.ref q101, .null, .null, .null, .null, .null, .null, .int 0, .int 0])), (q101, .inl (k102, 1600, .inl (fun _ => 0)))] := hD
  refine lv_aload_n hx hb dX10_init_13 rfl (lv_at hl 0 rfl) ?_
  refine lv_sipush (v := 1600) hx hb dX10_init_14 (by decide) ?_
  refine va_newa (atype := .int) (ty := .int) (N' := 1600) (a0 := (1600, .inl (fun _ => 0))) hx hb (hts _ (mc m_22)) rfl hK hP hD hS hA (fun _ => rfl) (by decide) (by decide) (by decide) (Nat.le_of_ble_eq_true rfl) (Nat.le_of_ble_eq_true rfl) dX10_init_17 (fun q103 k104 H hK hP hD hS => ?_)
  have hP : va_P (dC, dI) classes [(q0, .inr (10, [.ref q101, .null, .null, .null, .null, .null, .null, .int 0, .int 0])), (q101, .inl (k102, 1600, .inl (fun _ => 0))), (q103, .inl (k104, 1600, .inl (fun _ => 0)))] H := hP
  have hD : va_D A [(q0, .inr (10, [.ref q101, .null, .null, .null, .null, .null, .null, .int 0, .int 0])), (q101, .inl (k102, 1600, .inl (fun _ => 0))), (q103, .inl (k104, 1600, .inl (fun _ => 0)))] := hD
  have hK : va_K (dC, dI) classes [(k102, .int), (k104, .int)] s := hK
  refine W.widen (k := 2) (n := 3200) (Nat.le_of_ble_eq_true rfl) (Nat.le_of_ble_eq_true rfl) ?_
  refine va_putF (D := (dC, dI)) (ci := 10) (v := .ref q103) (ty := .array .int) (C := RX10) (T := TX10) (N := 9) hx hb hts (fun w h => mc (in_X10 w h)) tyX10 tyX10_ok nmX10 hown hK hP hD hS 0 rfl rfl 1 (by decide) (hts _ (mc m_40)) (fun _ h9 => h9) rfl hin rfl (by decide +kernel) (by first | rfl | decide) (by first | rfl | decide) (Nat.le_of_ble_eq_true rfl) dX10_init_19 (fun H locs hP hD hS => ?_)
  have hP : va_P (dC, dI) classes [(q0, .inr (10, [.ref q101, .ref q103, .null, .null, .null, .null, .null, .int 0, .int 0])), (q101, .inl (k102, 1600, .inl (fun _ => 0))), (q103, .inl (k104, 1600, .inl (fun _ => 0)))] H := hP
  have hD : va_D A [(q0, .inr (10, [.ref q101, .ref q103, .null, .null, .null, .null, .null, .int 0, .int 0])), (q101, .inl (k102, 1600, .inl (fun _ => 0))), (q103, .inl (k104, 1600, .inl (fun _ => 0)))] := hD
  refine lv_aload_n hx hb dX10_init_22 rfl (lv_at hl 0 rfl) ?_
  refine lv_sipush (v := 1600) hx hb dX10_init_23 (by decide) ?_
  refine va_newa (atype := .int) (ty := .int) (N' := 1600) (a0 := (1600, .inl (fun _ => 0))) hx hb (hts _ (mc m_22)) rfl hK hP hD hS hA (fun _ => rfl) (by decide) (by decide) (by decide) (Nat.le_of_ble_eq_true rfl) (Nat.le_of_ble_eq_true rfl) dX10_init_26 (fun q105 k106 H hK hP hD hS => ?_)
  have hP : va_P (dC, dI) classes [(q0, .inr (10, [.ref q101, .ref q103, .null, .null, .null, .null, .null, .int 0, .int 0])), (q101, .inl (k102, 1600, .inl (fun _ => 0))), (q103, .inl (k104, 1600, .inl (fun _ => 0))), (q105, .inl (k106, 1600, .inl (fun _ => 0)))] H := hP
  have hD : va_D A [(q0, .inr (10, [.ref q101, .ref q103, .null, .null, .null, .null, .null, .int 0, .int 0])), (q101, .inl (k102, 1600, .inl (fun _ => 0))), (q103, .inl (k104, 1600, .inl (fun _ => 0))), (q105, .inl (k106, 1600, .inl (fun _ => 0)))] := hD
  have hK : va_K (dC, dI) classes [(k102, .int), (k104, .int), (k106, .int)] s := hK
  refine W.widen (k := 3) (n := 4800) (Nat.le_of_ble_eq_true rfl) (Nat.le_of_ble_eq_true rfl) ?_
  refine va_putF (D := (dC, dI)) (ci := 10) (v := .ref q105) (ty := .array .int) (C := RX10) (T := TX10) (N := 9) hx hb hts (fun w h => mc (in_X10 w h)) tyX10 tyX10_ok nmX10 hown hK hP hD hS 0 rfl rfl 2 (by decide) (hts _ (mc m_41)) (fun _ h9 => h9) rfl hin rfl (by decide +kernel) (by first | rfl | decide) (by first | rfl | decide) (Nat.le_of_ble_eq_true rfl) dX10_init_28 (fun H locs hP hD hS => ?_)
  have hP : va_P (dC, dI) classes [(q0, .inr (10, [.ref q101, .ref q103, .ref q105, .null, .null, .null, .null, .int 0, .int 0])), (q101, .inl (k102, 1600, .inl (fun _ => 0))), (q103, .inl (k104, 1600, .inl (fun _ => 0))), (q105, .inl (k106, 1600, .inl (fun _ => 0)))] H := hP
  have hD : va_D A [(q0, .inr (10, [.ref q101, .ref q103, .ref q105, .null, .null, .null, .null, .int 0, .int 0])), (q101, .inl (k102, 1600, .inl (fun _ => 0))), (q103, .inl (k104, 1600, .inl (fun _ => 0))), (q105, .inl (k106, 1600, .inl (fun _ => 0)))] := hD
  refine lv_aload_n hx hb dX10_init_31 rfl (lv_at hl 0 rfl) ?_
  refine lv_sipush (v := 1600) hx hb dX10_init_32 (by decide) ?_
  refine va_newa (atype := .int) (ty := .int) (N' := 1600) (a0 := (1600, .inl (fun _ => 0))) hx hb (hts _ (mc m_22)) rfl hK hP hD hS hA (fun _ => rfl) (by decide) (by decide) (by decide) (Nat.le_of_ble_eq_true rfl) (Nat.le_of_ble_eq_true rfl) dX10_init_35 (fun q107 k108 H hK hP hD hS => ?_)
  have hP : va_P (dC, dI) classes [(q0, .inr (10, [.ref q101, .ref q103, .ref q105, .null, .null, .null, .null, .int 0, .int 0])), (q101, .inl (k102, 1600, .inl (fun _ => 0))), (q103, .inl (k104, 1600, .inl (fun _ => 0))), (q105, .inl (k106, 1600, .inl (fun _ => 0))), (q107, .inl (k108, 1600, .inl (fun _ => 0)))] H := hP
  have hD : va_D A [(q0, .inr (10, [.ref q101, .ref q103, .ref q105, .null, .null, .null, .null, .int 0, .int 0])), (q101, .inl (k102, 1600, .inl (fun _ => 0))), (q103, .inl (k104, 1600, .inl (fun _ => 0))), (q105, .inl (k106, 1600, .inl (fun _ => 0))), (q107, .inl (k108, 1600, .inl (fun _ => 0)))] := hD
  have hK : va_K (dC, dI) classes [(k102, .int), (k104, .int), (k106, .int), (k108, .int)] s := hK
  refine W.widen (k := 4) (n := 6400) (Nat.le_of_ble_eq_true rfl) (Nat.le_of_ble_eq_true rfl) ?_
  refine va_putF (D := (dC, dI)) (ci := 10) (v := .ref q107) (ty := .array .int) (C := RX10) (T := TX10) (N := 9) hx hb hts (fun w h => mc (in_X10 w h)) tyX10 tyX10_ok nmX10 hown hK hP hD hS 0 rfl rfl 3 (by decide) (hts _ (mc m_42)) (fun _ h9 => h9) rfl hin rfl (by decide +kernel) (by first | rfl | decide) (by first | rfl | decide) (Nat.le_of_ble_eq_true rfl) dX10_init_37 (fun H locs hP hD hS => ?_)
  have hP : va_P (dC, dI) classes [(q0, .inr (10, [.ref q101, .ref q103, .ref q105, .ref q107, .null, .null, .null, .int 0, .int 0])), (q101, .inl (k102, 1600, .inl (fun _ => 0))), (q103, .inl (k104, 1600, .inl (fun _ => 0))), (q105, .inl (k106, 1600, .inl (fun _ => 0))), (q107, .inl (k108, 1600, .inl (fun _ => 0)))] H := hP
  have hD : va_D A [(q0, .inr (10, [.ref q101, .ref q103, .ref q105, .ref q107, .null, .null, .null, .int 0, .int 0])), (q101, .inl (k102, 1600, .inl (fun _ => 0))), (q103, .inl (k104, 1600, .inl (fun _ => 0))), (q105, .inl (k106, 1600, .inl (fun _ => 0))), (q107, .inl (k108, 1600, .inl (fun _ => 0)))] := hD
  refine lv_aload_n hx hb dX10_init_40 rfl (lv_at hl 0 rfl) ?_
  refine lv_sipush (v := 1600) hx hb dX10_init_41 (by decide) ?_
  refine va_newa (atype := .int) (ty := .int) (N' := 1600) (a0 := (1600, .inl (fun _ => 0))) hx hb (hts _ (mc m_22)) rfl hK hP hD hS hA (fun _ => rfl) (by decide) (by decide) (by decide) (Nat.le_of_ble_eq_true rfl) (Nat.le_of_ble_eq_true rfl) dX10_init_44 (fun q109 k110 H hK hP hD hS => ?_)
  have hP : va_P (dC, dI) classes [(q0, .inr (10, [.ref q101, .ref q103, .ref q105, .ref q107, .null, .null, .null, .int 0, .int 0])), (q101, .inl (k102, 1600, .inl (fun _ => 0))), (q103, .inl (k104, 1600, .inl (fun _ => 0))), (q105, .inl (k106, 1600, .inl (fun _ => 0))), (q107, .inl (k108, 1600, .inl (fun _ => 0))), (q109, .inl (k110, 1600, .inl (fun _ => 0)))] H := hP
  have hD : va_D A [(q0, .inr (10, [.ref q101, .ref q103, .ref q105, .ref q107, .null, .null, .null, .int 0, .int 0])), (q101, .inl (k102, 1600, .inl (fun _ => 0))), (q103, .inl (k104, 1600, .inl (fun _ => 0))), (q105, .inl (k106, 1600, .inl (fun _ => 0))), (q107, .inl (k108, 1600, .inl (fun _ => 0))), (q109, .inl (k110, 1600, .inl (fun _ => 0)))] := hD
  have hK : va_K (dC, dI) classes [(k102, .int), (k104, .int), (k106, .int), (k108, .int), (k110, .int)] s := hK
  refine W.widen (k := 5) (n := 8000) (Nat.le_of_ble_eq_true rfl) (Nat.le_of_ble_eq_true rfl) ?_
  refine va_putF (D := (dC, dI)) (ci := 10) (v := .ref q109) (ty := .array .int) (C := RX10) (T := TX10) (N := 9) hx hb hts (fun w h => mc (in_X10 w h)) tyX10 tyX10_ok nmX10 hown hK hP hD hS 0 rfl rfl 4 (by decide) (hts _ (mc m_43)) (fun _ h9 => h9) rfl hin rfl (by decide +kernel) (by first | rfl | decide) (by first | rfl | decide) (Nat.le_of_ble_eq_true rfl) dX10_init_46 (fun H locs hP hD hS => ?_)
  have hP : va_P (dC, dI) classes [(q0, .inr (10, [.ref q101, .ref q103, .ref q105, .ref q107, .ref q109, .null, .null, .int 0, .int 0])), (q101, .inl (k102, 1600, .inl (fun _ => 0))), (q103, .inl (k104, 1600, .inl (fun _ => 0))), (q105, .inl (k106, 1600, .inl (fun _ => 0))), (q107, .inl (k108, 1600, .inl (fun _ => 0))), (q109, .inl (k110, 1600, .inl (fun _ => 0)))] H := hP
  have hD : va_D A [(q0, .inr (10, [.ref q101, .ref q103, .ref q105, .ref q107, .ref q109, .null, .null, .int 0, .int 0])), (q101, .inl (k102, 1600, .inl (fun _ => 0))), (q103, .inl (k104, 1600, .inl (fun _ => 0))), (q105, .inl (k106, 1600, .inl (fun _ => 0))), (q107, .inl (k108, 1600, .inl (fun _ => 0))), (q109, .inl (k110, 1600, .inl (fun _ => 0)))] := hD
  refine lv_aload_n hx hb dX10_init_49 rfl (lv_at hl 0 rfl) ?_
  refine lv_sipush (v := 1600) hx hb dX10_init_50 (by decide) ?_
  refine va_newa (atype := .int) (ty := .int) (N' := 1600) (a0 := (1600, .inl (fun _ => 0))) hx hb (hts _ (mc m_22)) rfl hK hP hD hS hA (fun _ => rfl) (by decide) (by decide) (by decide) (Nat.le_of_ble_eq_true rfl) (Nat.le_of_ble_eq_true rfl) dX10_init_53 (fun q111 k112 H hK hP hD hS => ?_)
  have hP : va_P (dC, dI) classes [(q0, .inr (10, [.ref q101, .ref q103, .ref q105, .ref q107, .ref q109, .null, .null, .int 0, .int 0])), (q101, .inl (k102, 1600, .inl (fun _ => 0))), (q103, .inl (k104, 1600, .inl (fun _ => 0))), (q105, .inl (k106, 1600, .inl (fun _ => 0))), (q107, .inl (k108, 1600, .inl (fun _ => 0))), (q109, .inl (k110, 1600, .inl (fun _ => 0))), (q111, .inl (k112, 1600, .inl (fun _ => 0)))] H := hP
  have hD : va_D A [(q0, .inr (10, [.ref q101, .ref q103, .ref q105, .ref q107, .ref q109, .null, .null, .int 0, .int 0])), (q101, .inl (k102, 1600, .inl (fun _ => 0))), (q103, .inl (k104, 1600, .inl (fun _ => 0))), (q105, .inl (k106, 1600, .inl (fun _ => 0))), (q107, .inl (k108, 1600, .inl (fun _ => 0))), (q109, .inl (k110, 1600, .inl (fun _ => 0))), (q111, .inl (k112, 1600, .inl (fun _ => 0)))] := hD
  have hK : va_K (dC, dI) classes [(k102, .int), (k104, .int), (k106, .int), (k108, .int), (k110, .int), (k112, .int)] s := hK
  refine W.widen (k := 6) (n := 9600) (Nat.le_of_ble_eq_true rfl) (Nat.le_of_ble_eq_true rfl) ?_
  refine va_putF (D := (dC, dI)) (ci := 10) (v := .ref q111) (ty := .array .int) (C := RX10) (T := TX10) (N := 9) hx hb hts (fun w h => mc (in_X10 w h)) tyX10 tyX10_ok nmX10 hown hK hP hD hS 0 rfl rfl 5 (by decide) (hts _ (mc m_44)) (fun _ h9 => h9) rfl hin rfl (by decide +kernel) (by first | rfl | decide) (by first | rfl | decide) (Nat.le_of_ble_eq_true rfl) dX10_init_55 (fun H locs hP hD hS => ?_)
  have hP : va_P (dC, dI) classes [(q0, .inr (10, [.ref q101, .ref q103, .ref q105, .ref q107, .ref q109, .ref q111, .null, .int 0, .int 0])), (q101, .inl (k102, 1600, .inl (fun _ => 0))), (q103, .inl (k104, 1600, .inl (fun _ => 0))), (q105, .inl (k106, 1600, .inl (fun _ => 0))), (q107, .inl (k108, 1600, .inl (fun _ => 0))), (q109, .inl (k110, 1600, .inl (fun _ => 0))), (q111, .inl (k112, 1600, .inl (fun _ => 0)))] H := hP
  have hD : va_D A [(q0, .inr (10, [.ref q101, .ref q103, .ref q105, .ref q107, .ref q109, .ref q111, .null, .int 0, .int 0])), (q101, .inl (k102, 1600, .inl (fun _ => 0))), (q103, .inl (k104, 1600, .inl (fun _ => 0))), (q105, .inl (k106, 1600, .inl (fun _ => 0))), (q107, .inl (k108, 1600, .inl (fun _ => 0))), (q109, .inl (k110, 1600, .inl (fun _ => 0))), (q111, .inl (k112, 1600, .inl (fun _ => 0)))] := hD
  refine lv_aload_n hx hb dX10_init_58 rfl (lv_at hl 0 rfl) ?_
  refine lv_sipush (v := 1000) hx hb dX10_init_59 (by decide) ?_
  refine va_newa (atype := .int) (ty := .int) (N' := 1000) (a0 := (1000, .inl (fun _ => 0))) hx hb (hts _ (mc m_22)) rfl hK hP hD hS hA (fun _ => rfl) (by decide) (by decide) (by decide) (Nat.le_of_ble_eq_true rfl) (Nat.le_of_ble_eq_true rfl) dX10_init_62 (fun q113 k114 H hK hP hD hS => ?_)
  have hP : va_P (dC, dI) classes [(q0, .inr (10, [.ref q101, .ref q103, .ref q105, .ref q107, .ref q109, .ref q111, .null, .int 0, .int 0])), (q101, .inl (k102, 1600, .inl (fun _ => 0))), (q103, .inl (k104, 1600, .inl (fun _ => 0))), (q105, .inl (k106, 1600, .inl (fun _ => 0))), (q107, .inl (k108, 1600, .inl (fun _ => 0))), (q109, .inl (k110, 1600, .inl (fun _ => 0))), (q111, .inl (k112, 1600, .inl (fun _ => 0))), (q113, .inl (k114, 1000, .inl (fun _ => 0)))] H := hP
  have hD : va_D A [(q0, .inr (10, [.ref q101, .ref q103, .ref q105, .ref q107, .ref q109, .ref q111, .null, .int 0, .int 0])), (q101, .inl (k102, 1600, .inl (fun _ => 0))), (q103, .inl (k104, 1600, .inl (fun _ => 0))), (q105, .inl (k106, 1600, .inl (fun _ => 0))), (q107, .inl (k108, 1600, .inl (fun _ => 0))), (q109, .inl (k110, 1600, .inl (fun _ => 0))), (q111, .inl (k112, 1600, .inl (fun _ => 0))), (q113, .inl (k114, 1000, .inl (fun _ => 0)))] := hD
  have hK : va_K (dC, dI) classes [(k102, .int), (k104, .int), (k106, .int), (k108, .int), (k110, .int), (k112, .int), (k114, .int)] s := hK
  refine W.widen (k := 7) (n := 10600) (Nat.le_of_ble_eq_true rfl) (Nat.le_of_ble_eq_true rfl) ?_
  refine va_putF (D := (dC, dI)) (ci := 10) (v := .ref q113) (ty := .array .int) (C := RX10) (T := TX10) (N := 9) hx hb hts (fun w h => mc (in_X10 w h)) tyX10 tyX10_ok nmX10 hown hK hP hD hS 0 rfl rfl 6 (by decide) (hts _ (mc m_45)) (fun _ h9 => h9) rfl hin rfl (by decide +kernel) (by first | rfl | decide) (by first | rfl | decide) (Nat.le_of_ble_eq_true rfl) dX10_init_64 (fun H locs hP hD hS => ?_)
  have hP : va_P (dC, dI) classes [(q0, .inr (10, [.ref q101, .ref q103, .ref q105, .ref q107, .ref q109, .ref q111, .ref q113, .int 0, .int 0])), (q101, .inl (k102, 1600, .inl (fun _ => 0))), (q103, .inl (k104, 1600, .inl (fun _ => 0))), (q105, .inl (k106, 1600, .inl (fun _ => 0))), (q107, .inl (k108, 1600, .inl (fun _ => 0))), (q109, .inl (k110, 1600, .inl (fun _ => 0))), (q111, .inl (k112, 1600, .inl (fun _ => 0))), (q113, .inl (k114, 1000, .inl (fun _ => 0)))] H := hP
  have hD : va_D A [(q0, .inr (10, [.ref q101, .ref q103, .ref q105, .ref q107, .ref q109, .ref q111, .ref q113, .int 0, .int 0])), (q101, .inl (k102, 1600, .inl (fun _ => 0))), (q103, .inl (k104, 1600, .inl (fun _ => 0))), (q105, .inl (k106, 1600, .inl (fun _ => 0))), (q107, .inl (k108, 1600, .inl (fun _ => 0))), (q109, .inl (k110, 1600, .inl (fun _ => 0))), (q111, .inl (k112, 1600, .inl (fun _ => 0))), (q113, .inl (k114, 1000, .inl (fun _ => 0)))] := hD
  have hP := hP.sub (ws' := [(q0, .inr (10, [.ref q101, .ref q103, .ref q105, .ref q107, .ref q109, .ref q111, .ref q113, .int 0, .int 0])), (q101, .inl (k102, 1600, .inl (fun _ => 0))), (q103, .inl (k104, 1600, .inl (fun _ => 0))), (q105, .inl (k106, 1600, .inl (fun _ => 0))), (q107, .inl (k108, 1600, .inl (fun _ => 0))), (q109, .inl (k110, 1600, .inl (fun _ => 0))), (q111, .inl (k112, 1600, .inl (fun _ => 0)))]) [0, 1, 2, 3, 4, 5, 6] rfl
  have hD := hD.sub (ws' := [(q0, .inr (10, [.ref q101, .ref q103, .ref q105, .ref q107, .ref q109, .ref q111, .ref q113, .int 0, .int 0])), (q101, .inl (k102, 1600, .inl (fun _ => 0))), (q103, .inl (k104, 1600, .inl (fun _ => 0))), (q105, .inl (k106, 1600, .inl (fun _ => 0))), (q107, .inl (k108, 1600, .inl (fun _ => 0))), (q109, .inl (k110, 1600, .inl (fun _ => 0))), (q111, .inl (k112, 1600, .inl (fun _ => 0)))]) [0, 1, 2, 3, 4, 5, 6] (by decide) rfl
  have hK := hK.sub (tys' := [(k102, .int), (k104, .int), (k106, .int), (k108, .int), (k110, .int), (k112, .int)]) [0, 1, 2, 3, 4, 5] rfl
  refine lv_aload_n hx hb dX10_init_67 rfl (lv_at hl 0 rfl) ?_
  refine lv_iconst (v := 0) hx hb dX10_init_68 (by decide) ?_
  refine va_put (D := (dC, dI)) (ci := 10) (v := .int 0) (ty := .int) (C := RX10) (T := TX10) (N := 9) hx hb hts (fun w h => mc (in_X10 w h)) tyX10 tyX10_ok nmX10 hown hK hP hD hS 0 rfl rfl 7 (by decide) (hts _ (mc m_46)) (fun _ h9 => h9) rfl (by decide +kernel) (by first | rfl | decide) (by first | rfl | decide) (Nat.le_of_ble_eq_true rfl) dX10_init_69 (fun H locs hP hD hS => ?_)
  have hP : va_P (dC, dI) classes [(q0, .inr (10, [.ref q101, .ref q103, .ref q105, .ref q107, .ref q109, .ref q111, .ref q113, .int 0, .int 0])), (q101, .inl (k102, 1600, .inl (fun _ => 0))), (q103, .inl (k104, 1600, .inl (fun _ => 0))), (q105, .inl (k106, 1600, .inl (fun _ => 0))), (q107, .inl (k108, 1600, .inl (fun _ => 0))), (q109, .inl (k110, 1600, .inl (fun _ => 0))), (q111, .inl (k112, 1600, .inl (fun _ => 0)))] H := hP
  have hD : va_D A [(q0, .inr (10, [.ref q101, .ref q103, .ref q105, .ref q107, .ref q109, .ref q111, .ref q113, .int 0, .int 0])), (q101, .inl (k102, 1600, .inl (fun _ => 0))), (q103, .inl (k104, 1600, .inl (fun _ => 0))), (q105, .inl (k106, 1600, .inl (fun _ => 0))), (q107, .inl (k108, 1600, .inl (fun _ => 0))), (q109, .inl (k110, 1600, .inl (fun _ => 0))), (q111, .inl (k112, 1600, .inl (fun _ => 0)))] := hD
  refine lv_aload_n hx hb dX10_init_72 rfl (lv_at hl 0 rfl) ?_
  refine lv_iconst (v := 0) hx hb dX10_init_73 (by decide) ?_
  refine va_put (D := (dC, dI)) (ci := 10) (v := .int 0) (ty := .int) (C := RX10) (T := TX10) (N := 9) hx hb hts (fun w h => mc (in_X10 w h)) tyX10 tyX10_ok nmX10 hown hK hP hD hS 0 rfl rfl 8 (by decide) (hts _ (mc m_47)) (fun _ h9 => h9) rfl (by decide +kernel) (by first | rfl | decide) (by first | rfl | decide) (Nat.le_of_ble_eq_true rfl) dX10_init_74 (fun H locs hP hD hS => ?_)
  have hP : va_P (dC, dI) classes [(q0, .inr (10, [.ref q101, .ref q103, .ref q105, .ref q107, .ref q109, .ref q111, .ref q113, .int 0, .int 0])), (q101, .inl (k102, 1600, .inl (fun _ => 0))), (q103, .inl (k104, 1600, .inl (fun _ => 0))), (q105, .inl (k106, 1600, .inl (fun _ => 0))), (q107, .inl (k108, 1600, .inl (fun _ => 0))), (q109, .inl (k110, 1600, .inl (fun _ => 0))), (q111, .inl (k112, 1600, .inl (fun _ => 0)))] H := hP
  have hD : va_D A [(q0, .inr (10, [.ref q101, .ref q103, .ref q105, .ref q107, .ref q109, .ref q111, .ref q113, .int 0, .int 0])), (q101, .inl (k102, 1600, .inl (fun _ => 0))), (q103, .inl (k104, 1600, .inl (fun _ => 0))), (q105, .inl (k106, 1600, .inl (fun _ => 0))), (q107, .inl (k108, 1600, .inl (fun _ => 0))), (q109, .inl (k110, 1600, .inl (fun _ => 0))), (q111, .inl (k112, 1600, .inl (fun _ => 0)))] := hD
  exact W.vret hx hb hr (fun t ht hW => ⟨⟨(), rfl, trivial, q101, q103, q105, q107, q109, q111, q113, k102, k104, k106, k108, k110, k112, by rw [ht]; exact hP, va_K.moved hW.alike hK, hD⟩, hS.F ht⟩) hS.2.2 dX10_init_77
set_option maxHeartbeats 4000000 in
set_option maxRecDepth 100000 in
theorem c_X0_init_0 (l : Launch) (dC : Nat → ClassId) (dI : Nat → Nat → Nat) (q0 : Nat) (sz : Nat) : Met l yX0_init (.code yX0_init cX0_init 1 none :: bigW) { frames := 1, cells := 17, slots := 8900, locals := 20 } (va_Pc [.ref q0] (q_In dC dI [(q0, .inr (0, [.null, .null, .null, .null, .null, .int 0, .null, .null, .null, .null, .null, .null, .null, .null, .int 0, .null, .null, .null, .null]))] [] sz)) (va_Qv (fun _ : Unit => True) (fun _ t => ∃ (q101 : Nat) (q103 : Nat) (q105 : Nat) (q107 : Nat) (q109 : Nat) (q111 : Nat) (q113 : Nat) (q115 : Nat) (q117 : Nat) (q119 : Nat) (q121 : Nat) (q123 : Nat) (q125 : Nat) (q127 : Nat) (q129 : Nat) (q131 : Nat) (q133 : Nat), va_P (dC, dI) classes [(q0, .inr (0, [.ref q101, .ref q103, .ref q105, .ref q107, .ref q109, .int 0, .ref q111, .ref q113, .ref q115, .ref q117, .ref q119, .ref q121, .ref q123, .ref q125, .int 0, .ref q127, .ref q129, .ref q131, .ref q133]))] t.heap ∧ va_K (dC, dI) classes [] t ∧ va_D (va_A [(q0, .inr (0, [.null, .null, .null, .null, .null, .int 0, .null, .null, .null, .null, .null, .null, .null, .null, .int 0, .null, .null, .null, .null]))] sz) [(q0, .inr (0, [.ref q101, .ref q103, .ref q105, .ref q107, .ref q109, .int 0, .ref q111, .ref q113, .ref q115, .ref q117, .ref q119, .ref q121, .ref q123, .ref q125, .int 0, .ref q127, .ref q129, .ref q131, .ref q133]))]) (va_A [(q0, .inr (0, [.null, .null, .null, .null, .null, .int 0, .null, .null, .null, .null, .null, .null, .null, .null, .int 0, .null, .null, .null, .null]))] sz)) 17 8900 (va_A [(q0, .inr (0, [.null, .null, .null, .null, .null, .int 0, .null, .null, .null, .null, .null, .null, .null, .null, .int 0, .null, .null, .null, .null]))] sz) := by
  refine Met.ofW (cc := cX0_init) (maxL := 1) (ret := none) (by decide) rfl ?_
  intro p e s m args below meth c s₁ B hml hv
  obtain ⟨rfl, hsz, hP, hK, hD0, hE⟩ := hv
  have hx := B.exec
  have hb := B.bytes
  have hr := B.returns
  have hts := atoms_spec (ws := .code yX0_init cX0_init 1 none :: bigW) B.pre
  have hown : s.vm.findClass RX0 = some m.cls := findClass_of_methodNamed B.named
  have hlocks := B.notSynchronized
  have hin : meth.name = "<init>" := (name_of_methodNamed B.named B.method).1
  subst hsz
  have hD := hD0.self (sz := s.heap.size)
  generalize hAe : va_A [(q0, .inr (0, [.null, .null, .null, .null, .null, .int 0, .null, .null, .null, .null, .null, .null, .null, .null, .int 0, .null, .null, .null, .null]))] s.heap.size = A at hD hE ⊢
  have hN : q_N s := hE.2.2.2.1
  have hA : ∀ q : Nat, s.heap.size ≤ q → A q := fun q h => by rw [← hAe]; exact Or.inr h
  have hS : va_S A s.heap s.heap [] := va_S.rf
  have hP : va_P (dC, dI) classes [(q0, .inr (0, [.null, .null, .null, .null, .null, .int 0, .null, .null, .null, .null, .null, .null, .null, .null, .int 0, .null, .null, .null, .null]))] s.heap := hP
  have hl := lv_entry ([.ref q0]) (n := 1) (Nat.le_of_ble_eq_true rfl)
  rw [lg_entry_eq]
  generalize (lg_sl ([.ref q0]) ++ List.replicate (1 - (lg_sl ([.ref q0])).length) Slot.unset).toArray = ls at hl ⊢
  have hl : lv_has ls 1 [(0, .ref q0)] := hl
  refine lv_aload_n hx hb dX0_init_0 rfl (lv_at hl 0 rfl) ?_
  refine W.objInit hx hb hown (hts _ (mc m_55)) (hts _ (mc m_1)) (hts _ (mc m_2)) rfl (by rw [hml]; exact hl.1) rfl dX0_init_1 (Nat.le_of_ble_eq_true rfl) (Nat.le_of_ble_eq_true rfl) ?_
  refine W.eq (g2 := F0 m 4 ls []) rfl ?_
  refine lv_aload_n hx hb dX0_init_4 rfl (lv_at hl 0 rfl) ?_
  refine lv_bipush (v := 100) hx hb dX0_init_5 (by decide) ?_
  refine va_newa (atype := .int) (ty := .int) (N' := 100) (a0 := (100, .inl (fun _ => 0))) hx hb (hts _ (mc m_22)) rfl hK hP hD hS hA (fun _ => rfl) (by decide) (by decide) (by decide) (Nat.le_of_ble_eq_true rfl) (Nat.le_of_ble_eq_true rfl) dX0_init_7 (fun q101 k102 H hK hP hD hS => ?_)
  have hP : va_P (dC, dI) classes [(q0, .inr (0, [.null, .null, .null, .null, .null, .int 0, .null, .null, .null, .null, .null, .null, .null, .null, .int 0, .null, .null, .null, .null])), (q101, .inl (k102, 100, .inl (fun _ => 0)))] H := hP
  have hD : va_D A [(q0, .inr (0, [.null, .null, .null, .null, .null, .int 0, .null, .null, .null, .null, .null, .null, .null, .null, .int 0, .null, .null, .null, .null])), (q101, .inl (k102, 100, .inl (fun _ => 0)))] := hD
  have hK : va_K (dC, dI) classes [(k102, .int)] s := hK
  refine W.widen (k := 1) (n := 100) (Nat.le_of_ble_eq_true rfl) (Nat.le_of_ble_eq_true rfl) ?_
  refine va_putF (D := (dC, dI)) (ci := 0) (v := .ref q101) (ty := .array .int) (C := RX0) (T := TX0) (N := 19) hx hb hts (fun w h => mc (in_X0 w h)) tyX0 tyX0_ok nmX0 hown hK hP hD hS 0 rfl rfl 0 (by decide) (hts _ (mc m_56)) (fun _ h9 => h9) rfl hin rfl (by decide +kernel) (by first | rfl | decide) (by first | rfl | decide) (Nat.le_of_ble_eq_true rfl) dX0_init_9 (fun H locs hP hD hS => ?_)
  have hP : va_P (dC, dI) classes [(q0, .inr (0, [.ref q101, .null, .null, .null, .null, .int 0, .null, .null, .null, .null, .null, .null, .null, .null, .int 0, .null, .null, .null, .null])), (q101, .inl (k102, 100, .inl (fun _ => 0)))] H := hP
  have hD : va_D A [(q0, .inr (0, [.ref q101, .null, .null, .null, .null, .int 0, .null, .null, .null, .null, .null, .null, .null, .null, .int 0, .null, .null, .null, .null])), (q101, .inl (k102, 100, .inl (fun _ => 0)))] := hD
  have hP := hP.sub (ws' := [(q0, .inr (0, [.ref q101, .null, .null, .null, .null, .int 0, .null, .null, .null, .null, .null, .null, .null, .null, .int 0, .null, .null, .null, .null]))]) [0] rfl
  have hD := hD.sub (ws' := [(q0, .inr (0, [.ref q101, .null, .null, .null, .null, .int 0, .null, .null, .null, .null, .null, .null, .null, .null, .int 0, .null, .null, .null, .null]))]) [0] (by decide) rfl
  have hK := hK.sub (tys' := []) [] rfl
  refine lv_aload_n hx hb dX0_init_12 rfl (lv_at hl 0 rfl) ?_
  refine lv_bipush (v := 100) hx hb dX0_init_13 (by decide) ?_
  refine va_newa (atype := .int) (ty := .int) (N' := 100) (a0 := (100, .inl (fun _ => 0))) hx hb (hts _ (mc m_22)) rfl hK hP hD hS hA (fun _ => rfl) (by decide) (by decide) (by decide) (Nat.le_of_ble_eq_true rfl) (Nat.le_of_ble_eq_true rfl) dX0_init_15 (fun q103 k104 H hK hP hD hS => ?_)
  have hP : va_P (dC, dI) classes [(q0, .inr (0, [.ref q101, .null, .null, .null, .null, .int 0, .null, .null, .null, .null, .null, .null, .null, .null, .int 0, .null, .null, .null, .null])), (q103, .inl (k104, 100, .inl (fun _ => 0)))] H := hP
  have hD : va_D A [(q0, .inr (0, [.ref q101, .null, .null, .null, .null, .int 0, .null, .null, .null, .null, .null, .null, .null, .null, .int 0, .null, .null, .null, .null])), (q103, .inl (k104, 100, .inl (fun _ => 0)))] := hD
  have hK : va_K (dC, dI) classes [(k104, .int)] s := hK
  refine W.widen (k := 2) (n := 200) (Nat.le_of_ble_eq_true rfl) (Nat.le_of_ble_eq_true rfl) ?_
  refine va_putF (D := (dC, dI)) (ci := 0) (v := .ref q103) (ty := .array .int) (C := RX0) (T := TX0) (N := 19) hx hb hts (fun w h => mc (in_X0 w h)) tyX0 tyX0_ok nmX0 hown hK hP hD hS 0 rfl rfl 1 (by decide) (hts _ (mc m_57)) (fun _ h9 => h9) rfl hin rfl (by decide +kernel) (by first | rfl | decide) (by first | rfl | decide) (Nat.le_of_ble_eq_true rfl) dX0_init_17 (fun H locs hP hD hS => ?_)
  have hP : va_P (dC, dI) classes [(q0, .inr (0, [.ref q101, .ref q103, .null, .null, .null, .int 0, .null, .null, .null, .null, .null, .null, .null, .null, .int 0, .null, .null, .null, .null])), (q103, .inl (k104, 100, .inl (fun _ => 0)))] H := hP
  have hD : va_D A [(q0, .inr (0, [.ref q101, .ref q103, .null, .null, .null, .int 0, .null, .null, .null, .null, .null, .null, .null, .null, .int 0, .null, .null, .null, .null])), (q103, .inl (k104, 100, .inl (fun _ => 0)))] := hD
  have hP := hP.sub (ws' := [(q0, .inr (0, [.ref q101, .ref q103, .null, .null, .null, .int 0, .null, .null, .null, .null, .null, .null, .null, .null, .int 0, .null, .null, .null, .null]))]) [0] rfl
  have hD := hD.sub (ws' := [(q0, .inr (0, [.ref q101, .ref q103, .null, .null, .null, .int 0, .null, .null, .null, .null, .null, .null, .null, .null, .int 0, .null, .null, .null, .null]))]) [0] (by decide) rfl
  have hK := hK.sub (tys' := []) [] rfl
  refine lv_aload_n hx hb dX0_init_20 rfl (lv_at hl 0 rfl) ?_
  refine lv_bipush (v := 100) hx hb dX0_init_21 (by decide) ?_
  refine va_newa (atype := .int) (ty := .int) (N' := 100) (a0 := (100, .inl (fun _ => 0))) hx hb (hts _ (mc m_22)) rfl hK hP hD hS hA (fun _ => rfl) (by decide) (by decide) (by decide) (Nat.le_of_ble_eq_true rfl) (Nat.le_of_ble_eq_true rfl) dX0_init_23 (fun q105 k106 H hK hP hD hS => ?_)
  have hP : va_P (dC, dI) classes [(q0, .inr (0, [.ref q101, .ref q103, .null, .null, .null, .int 0, .null, .null, .null, .null, .null, .null, .null, .null, .int 0, .null, .null, .null, .null])), (q105, .inl (k106, 100, .inl (fun _ => 0)))] H := hP
  have hD : va_D A [(q0, .inr (0, [.ref q101, .ref q103, .null, .null, .null, .int 0, .null, .null, .null, .null, .null, .null, .null, .null, .int 0, .null, .null, .null, .null])), (q105, .inl (k106, 100, .inl (fun _ => 0)))] := hD
  have hK : va_K (dC, dI) classes [(k106, .int)] s := hK
  refine W.widen (k := 3) (n := 300) (Nat.le_of_ble_eq_true rfl) (Nat.le_of_ble_eq_true rfl) ?_
  refine va_putF (D := (dC, dI)) (ci := 0) (v := .ref q105) (ty := .array .int) (C := RX0) (T := TX0) (N := 19) hx hb hts (fun w h => mc (in_X0 w h)) tyX0 tyX0_ok nmX0 hown hK hP hD hS 0 rfl rfl 2 (by decide) (hts _ (mc m_58)) (fun _ h9 => h9) rfl hin rfl (by decide +kernel) (by first | rfl | decide) (by first | rfl | decide) (Nat.le_of_ble_eq_true rfl) dX0_init_25 (fun H locs hP hD hS => ?_)
  have hP : va_P (dC, dI) classes [(q0, .inr (0, [.ref q101, .ref q103, .ref q105, .null, .null, .int 0, .null, .null, .null, .null, .null, .null, .null, .null, .int 0, .null, .null, .null, .null])), (q105, .inl (k106, 100, .inl (fun _ => 0)))] H := hP
  have hD : va_D A [(q0, .inr (0, [.ref q101, .ref q103, .ref q105, .null, .null, .int 0, .null, .null, .null, .null, .null, .null, .null, .null, .int 0, .null, .null, .null, .null])), (q105, .inl (k106, 100, .inl (fun _ => 0)))] := hD
  have hP := hP.sub (ws' := [(q0, .inr (0, [.ref q101, .ref q103, .ref q105, .null, .null, .int 0, .null, .null, .null, .null, .null, .null, .null, .null, .int 0, .null, .null, .null, .null]))]) [0] rfl
  have hD := hD.sub (ws' := [(q0, .inr (0, [.ref q101, .ref q103, .ref q105, .null, .null, .int 0, .null, .null, .null, .null, .null, .null, .null, .null, .int 0, .null, .null, .null, .null]))]) [0] (by decide) rfl
  have hK := hK.sub (tys' := []) [] rfl
  refine lv_aload_n hx hb dX0_init_28 rfl (lv_at hl 0 rfl) ?_
  refine lv_bipush (v := 100) hx hb dX0_init_29 (by decide) ?_
  refine va_newa (atype := .int) (ty := .int) (N' := 100) (a0 := (100, .inl (fun _ => 0))) hx hb (hts _ (mc m_22)) rfl hK hP hD hS hA (fun _ => rfl) (by decide) (by decide) (by decide) (Nat.le_of_ble_eq_true rfl) (Nat.le_of_ble_eq_true rfl) dX0_init_31 (fun q107 k108 H hK hP hD hS => ?_)
  have hP : va_P (dC, dI) classes [(q0, .inr (0, [.ref q101, .ref q103, .ref q105, .null, .null, .int 0, .null, .null, .null, .null, .null, .null, .null, .null, .int 0, .null, .null, .null, .null])), (q107, .inl (k108, 100, .inl (fun _ => 0)))] H := hP
  have hD : va_D A [(q0, .inr (0, [.ref q101, .ref q103, .ref q105, .null, .null, .int 0, .null, .null, .null, .null, .null, .null, .null, .null, .int 0, .null, .null, .null, .null])), (q107, .inl (k108, 100, .inl (fun _ => 0)))] := hD
  have hK : va_K (dC, dI) classes [(k108, .int)] s := hK
  refine W.widen (k := 4) (n := 400) (Nat.le_of_ble_eq_true rfl) (Nat.le_of_ble_eq_true rfl) ?_
  refine va_putF (D := (dC, dI)) (ci := 0) (v := .ref q107) (ty := .array .int) (C := RX0) (T := TX0) (N := 19) hx hb hts (fun w h => mc (in_X0 w h)) tyX0 tyX0_ok nmX0 hown hK hP hD hS 0 rfl rfl 3 (by decide) (hts _ (mc m_59)) (fun _ h9 => h9) rfl hin rfl (by decide +kernel) (by first | rfl | decide) (by first | rfl | decide) (Nat.le_of_ble_eq_true rfl) dX0_init_33 (fun H locs hP hD hS => ?_)
  have hP : va_P (dC, dI) classes [(q0, .inr (0, [.ref q101, .ref q103, .ref q105, .ref q107, .null, .int 0, .null, .null, .null, .null, .null, .null, .null, .null, .int 0, .null, .null, .null, .null])), (q107, .inl (k108, 100, .inl (fun _ => 0)))] H := hP
  have hD : va_D A [(q0, .inr (0, [.ref q101, .ref q103, .ref q105, .ref q107, .null, .int 0, .null, .null, .null, .null, .null, .null, .null, .null, .int 0, .null, .null, .null, .null])), (q107, .inl (k108, 100, .inl (fun _ => 0)))] := hD
  have hP := hP.sub (ws' := [(q0, .inr (0, [.ref q101, .ref q103, .ref q105, .ref q107, .null, .int 0, .null, .null, .null, .null, .null, .null, .null, .null, .int 0, .null, .null, .null, .null]))]) [0] rfl
  have hD := hD.sub (ws' := [(q0, .inr (0, [.ref q101, .ref q103, .ref q105, .ref q107, .null, .int 0, .null, .null, .null, .null, .null, .null, .null, .null, .int 0, .null, .null, .null, .null]))]) [0] (by decide) rfl
  have hK := hK.sub (tys' := []) [] rfl
  refine lv_aload_n hx hb dX0_init_36 rfl (lv_at hl 0 rfl) ?_
  refine lv_bipush (v := 100) hx hb dX0_init_37 (by decide) ?_
  refine va_newa (atype := .int) (ty := .int) (N' := 100) (a0 := (100, .inl (fun _ => 0))) hx hb (hts _ (mc m_22)) rfl hK hP hD hS hA (fun _ => rfl) (by decide) (by decide) (by decide) (Nat.le_of_ble_eq_true rfl) (Nat.le_of_ble_eq_true rfl) dX0_init_39 (fun q109 k110 H hK hP hD hS => ?_)
  have hP : va_P (dC, dI) classes [(q0, .inr (0, [.ref q101, .ref q103, .ref q105, .ref q107, .null, .int 0, .null, .null, .null, .null, .null, .null, .null, .null, .int 0, .null, .null, .null, .null])), (q109, .inl (k110, 100, .inl (fun _ => 0)))] H := hP
  have hD : va_D A [(q0, .inr (0, [.ref q101, .ref q103, .ref q105, .ref q107, .null, .int 0, .null, .null, .null, .null, .null, .null, .null, .null, .int 0, .null, .null, .null, .null])), (q109, .inl (k110, 100, .inl (fun _ => 0)))] := hD
  have hK : va_K (dC, dI) classes [(k110, .int)] s := hK
  refine W.widen (k := 5) (n := 500) (Nat.le_of_ble_eq_true rfl) (Nat.le_of_ble_eq_true rfl) ?_
  refine va_putF (D := (dC, dI)) (ci := 0) (v := .ref q109) (ty := .array .int) (C := RX0) (T := TX0) (N := 19) hx hb hts (fun w h => mc (in_X0 w h)) tyX0 tyX0_ok nmX0 hown hK hP hD hS 0 rfl rfl 4 (by decide) (hts _ (mc m_60)) (fun _ h9 => h9) rfl hin rfl (by decide +kernel) (by first | rfl | decide) (by first | rfl | decide) (Nat.le_of_ble_eq_true rfl) dX0_init_41 (fun H locs hP hD hS => ?_)
  have hP : va_P (dC, dI) classes [(q0, .inr (0, [.ref q101, .ref q103, .ref q105, .ref q107, .ref q109, .int 0, .null, .null, .null, .null, .null, .null, .null, .null, .int 0, .null, .null, .null, .null])), (q109, .inl (k110, 100, .inl (fun _ => 0)))] H := hP
  have hD : va_D A [(q0, .inr (0, [.ref q101, .ref q103, .ref q105, .ref q107, .ref q109, .int 0, .null, .null, .null, .null, .null, .null, .null, .null, .int 0, .null, .null, .null, .null])), (q109, .inl (k110, 100, .inl (fun _ => 0)))] := hD
  have hP := hP.sub (ws' := [(q0, .inr (0, [.ref q101, .ref q103, .ref q105, .ref q107, .ref q109, .int 0, .null, .null, .null, .null, .null, .null, .null, .null, .int 0, .null, .null, .null, .null]))]) [0] rfl
  have hD := hD.sub (ws' := [(q0, .inr (0, [.ref q101, .ref q103, .ref q105, .ref q107, .ref q109, .int 0, .null, .null, .null, .null, .null, .null, .null, .null, .int 0, .null, .null, .null, .null]))]) [0] (by decide) rfl
  have hK := hK.sub (tys' := []) [] rfl
  refine lv_aload_n hx hb dX0_init_44 rfl (lv_at hl 0 rfl) ?_
  refine lv_iconst (v := 0) hx hb dX0_init_45 (by decide) ?_
  refine va_put (D := (dC, dI)) (ci := 0) (v := .int 0) (ty := .int) (C := RX0) (T := TX0) (N := 19) hx hb hts (fun w h => mc (in_X0 w h)) tyX0 tyX0_ok nmX0 hown hK hP hD hS 0 rfl rfl 5 (by decide) (hts _ (mc m_61)) (fun _ h9 => h9) rfl (by decide +kernel) (by first | rfl | decide) (by first | rfl | decide) (Nat.le_of_ble_eq_true rfl) dX0_init_46 (fun H locs hP hD hS => ?_)
  have hP : va_P (dC, dI) classes [(q0, .inr (0, [.ref q101, .ref q103, .ref q105, .ref q107, .ref q109, .int 0, .null, .null, .null, .null, .null, .null, .null, .null, .int 0, .null, .null, .null, .null]))] H := hP
  have hD : va_D A [(q0, .inr (0, [.ref q101, .ref q103, .ref q105, .ref q107, .ref q109, .int 0, .null, .null, .null, .null, .null, .null, .null, .null, .int 0, .null, .null, .null, .null]))] := hD
  refine lv_aload_n hx hb dX0_init_49 rfl (lv_at hl 0 rfl) ?_
  refine lv_bipush (v := 40) hx hb dX0_init_50 (by decide) ?_
  refine va_newa (atype := .int) (ty := .int) (N' := 40) (a0 := (40, .inl (fun _ => 0))) hx hb (hts _ (mc m_22)) rfl hK hP hD hS hA (fun _ => rfl) (by decide) (by decide) (by decide) (Nat.le_of_ble_eq_true rfl) (Nat.le_of_ble_eq_true rfl) dX0_init_52 (fun q111 k112 H hK hP hD hS => ?_)
  have hP : va_P (dC, dI) classes [(q0, .inr (0, [.ref q101, .ref q103, .ref q105, .ref q107, .ref q109, .int 0, .null, .null, .null, .null, .null, .null, .null, .null, .int 0, .null, .null, .null, .null])), (q111, .inl (k112, 40, .inl (fun _ => 0)))] H := hP
  have hD : va_D A [(q0, .inr (0, [.ref q101, .ref q103, .ref q105, .ref q107, .ref q109, .int 0, .null, .null, .null, .null, .null, .null, .null, .null, .int 0, .null, .null, .null, .null])), (q111, .inl (k112, 40, .inl (fun _ => 0)))] := hD
  have hK : va_K (dC, dI) classes [(k112, .int)] s := hK
  refine W.widen (k := 6) (n := 540) (Nat.le_of_ble_eq_true rfl) (Nat.le_of_ble_eq_true rfl) ?_
  refine va_putF (D := (dC, dI)) (ci := 0) (v := .ref q111) (ty := .array .int) (C := RX0) (T := TX0) (N := 19) hx hb hts (fun w h => mc (in_X0 w h)) tyX0 tyX0_ok nmX0 hown hK hP hD hS 0 rfl rfl 6 (by decide) (hts _ (mc m_62)) (fun _ h9 => h9) rfl hin rfl (by decide +kernel) (by first | rfl | decide) (by first | rfl | decide) (Nat.le_of_ble_eq_true rfl) dX0_init_54 (fun H locs hP hD hS => ?_)
  have hP : va_P (dC, dI) classes [(q0, .inr (0, [.ref q101, .ref q103, .ref q105, .ref q107, .ref q109, .int 0, .ref q111, .null, .null, .null, .null, .null, .null, .null, .int 0, .null, .null, .null, .null])), (q111, .inl (k112, 40, .inl (fun _ => 0)))] H := hP
  have hD : va_D A [(q0, .inr (0, [.ref q101, .ref q103, .ref q105, .ref q107, .ref q109, .int 0, .ref q111, .null, .null, .null, .null, .null, .null, .null, .int 0, .null, .null, .null, .null])), (q111, .inl (k112, 40, .inl (fun _ => 0)))] := hD
  have hP := hP.sub (ws' := [(q0, .inr (0, [.ref q101, .ref q103, .ref q105, .ref q107, .ref q109, .int 0, .ref q111, .null, .null, .null, .null, .null, .null, .null, .int 0, .null, .null, .null, .null]))]) [0] rfl
  have hD := hD.sub (ws' := [(q0, .inr (0, [.ref q101, .ref q103, .ref q105, .ref q107, .ref q109, .int 0, .ref q111, .null, .null, .null, .null, .null, .null, .null, .int 0, .null, .null, .null, .null]))]) [0] (by decide) rfl
  have hK := hK.sub (tys' := []) [] rfl
  refine lv_aload_n hx hb dX0_init_57 rfl (lv_at hl 0 rfl) ?_
  refine lv_bipush (v := 40) hx hb dX0_init_58 (by decide) ?_
  refine va_newa (atype := .int) (ty := .int) (N' := 40) (a0 := (40, .inl (fun _ => 0))) hx hb (hts _ (mc m_22)) rfl hK hP hD hS hA (fun _ => rfl) (by decide) (by decide) (by decide) (Nat.le_of_ble_eq_true rfl) (Nat.le_of_ble_eq_true rfl) dX0_init_60 (fun q113 k114 H hK hP hD hS => ?_)
  have hP : va_P (dC, dI) classes [(q0, .inr (0, [.ref q101, .ref q103, .ref q105, .ref q107, .ref q109, .int 0, .ref q111, .null, .null, .null, .null, .null, .null, .null, .int 0, .null, .null, .null, .null])), (q113, .inl (k114, 40, .inl (fun _ => 0)))] H := hP
  have hD : va_D A [(q0, .inr (0, [.ref q101, .ref q103, .ref q105, .ref q107, .ref q109, .int 0, .ref q111, .null, .null, .null, .null, .null, .null, .null, .int 0, .null, .null, .null, .null])), (q113, .inl (k114, 40, .inl (fun _ => 0)))] := hD
  have hK : va_K (dC, dI) classes [(k114, .int)] s := hK
  refine W.widen (k := 7) (n := 580) (Nat.le_of_ble_eq_true rfl) (Nat.le_of_ble_eq_true rfl) ?_
  refine va_putF (D := (dC, dI)) (ci := 0) (v := .ref q113) (ty := .array .int) (C := RX0) (T := TX0) (N := 19) hx hb hts (fun w h => mc (in_X0 w h)) tyX0 tyX0_ok nmX0 hown hK hP hD hS 0 rfl rfl 7 (by decide) (hts _ (mc m_63)) (fun _ h9 => h9) rfl hin rfl (by decide +kernel) (by first | rfl | decide) (by first | rfl | decide) (Nat.le_of_ble_eq_true rfl) dX0_init_62 (fun H locs hP hD hS => ?_)
  have hP : va_P (dC, dI) classes [(q0, .inr (0, [.ref q101, .ref q103, .ref q105, .ref q107, .ref q109, .int 0, .ref q111, .ref q113, .null, .null, .null, .null, .null, .null, .int 0, .null, .null, .null, .null])), (q113, .inl (k114, 40, .inl (fun _ => 0)))] H := hP
  have hD : va_D A [(q0, .inr (0, [.ref q101, .ref q103, .ref q105, .ref q107, .ref q109, .int 0, .ref q111, .ref q113, .null, .null, .null, .null, .null, .null, .int 0, .null, .null, .null, .null])), (q113, .inl (k114, 40, .inl (fun _ => 0)))] := hD
  have hP := hP.sub (ws' := [(q0, .inr (0, [.ref q101, .ref q103, .ref q105, .ref q107, .ref q109, .int 0, .ref q111, .ref q113, .null, .null, .null, .null, .null, .null, .int 0, .null, .null, .null, .null]))]) [0] rfl
  have hD := hD.sub (ws' := [(q0, .inr (0, [.ref q101, .ref q103, .ref q105, .ref q107, .ref q109, .int 0, .ref q111, .ref q113, .null, .null, .null, .null, .null, .null, .int 0, .null, .null, .null, .null]))]) [0] (by decide) rfl
  have hK := hK.sub (tys' := []) [] rfl
  refine lv_aload_n hx hb dX0_init_65 rfl (lv_at hl 0 rfl) ?_
  refine lv_bipush (v := 40) hx hb dX0_init_66 (by decide) ?_
  refine va_newa (atype := .int) (ty := .int) (N' := 40) (a0 := (40, .inl (fun _ => 0))) hx hb (hts _ (mc m_22)) rfl hK hP hD hS hA (fun _ => rfl) (by decide) (by decide) (by decide) (Nat.le_of_ble_eq_true rfl) (Nat.le_of_ble_eq_true rfl) dX0_init_68 (fun q115 k116 H hK hP hD hS => ?_)
  have hP : va_P (dC, dI) classes [(q0, .inr (0, [.ref q101, .ref q103, .ref q105, .ref q107, .ref q109, .int 0, .ref q111, .ref q113, .null, .null, .null, .null, .null, .null, .int 0, .null, .null, .null, .null])), (q115, .inl (k116, 40, .inl (fun _ => 0)))] H := hP
  have hD : va_D A [(q0, .inr (0, [.ref q101, .ref q103, .ref q105, .ref q107, .ref q109, .int 0, .ref q111, .ref q113, .null, .null, .null, .null, .null, .null, .int 0, .null, .null, .null, .null])), (q115, .inl (k116, 40, .inl (fun _ => 0)))] := hD
  have hK : va_K (dC, dI) classes [(k116, .int)] s := hK
  refine W.widen (k := 8) (n := 620) (Nat.le_of_ble_eq_true rfl) (Nat.le_of_ble_eq_true rfl) ?_
  refine va_putF (D := (dC, dI)) (ci := 0) (v := .ref q115) (ty := .array .int) (C := RX0) (T := TX0) (N := 19) hx hb hts (fun w h => mc (in_X0 w h)) tyX0 tyX0_ok nmX0 hown hK hP hD hS 0 rfl rfl 8 (by decide) (hts _ (mc m_64)) (fun _ h9 => h9) rfl hin rfl (by decide +kernel) (by first | rfl | decide) (by first | rfl | decide) (Nat.le_of_ble_eq_true rfl) dX0_init_70 (fun H locs hP hD hS => ?_)
  have hP : va_P (dC, dI) classes [(q0, .inr (0, [.ref q101, .ref q103, .ref q105, .ref q107, .ref q109, .int 0, .ref q111, .ref q113, .ref q115, .null, .null, .null, .null, .null, .int 0, .null, .null, .null, .null])), (q115, .inl (k116, 40, .inl (fun _ => 0)))] H := hP
  have hD : va_D A [(q0, .inr (0, [.ref q101, .ref q103, .ref q105, .ref q107, .ref q109, .int 0, .ref q111, .ref q113, .ref q115, .null, .null, .null, .null, .null, .int 0, .null, .null, .null, .null])), (q115, .inl (k116, 40, .inl (fun _ => 0)))] := hD
  have hP := hP.sub (ws' := [(q0, .inr (0, [.ref q101, .ref q103, .ref q105, .ref q107, .ref q109, .int 0, .ref q111, .ref q113, .ref q115, .null, .null, .null, .null, .null, .int 0, .null, .null, .null, .null]))]) [0] rfl
  have hD := hD.sub (ws' := [(q0, .inr (0, [.ref q101, .ref q103, .ref q105, .ref q107, .ref q109, .int 0, .ref q111, .ref q113, .ref q115, .null, .null, .null, .null, .null, .int 0, .null, .null, .null, .null]))]) [0] (by decide) rfl
  have hK := hK.sub (tys' := []) [] rfl
  refine lv_aload_n hx hb dX0_init_73 rfl (lv_at hl 0 rfl) ?_
  refine lv_bipush (v := 40) hx hb dX0_init_74 (by decide) ?_
  refine va_newa (atype := .int) (ty := .int) (N' := 40) (a0 := (40, .inl (fun _ => 0))) hx hb (hts _ (mc m_22)) rfl hK hP hD hS hA (fun _ => rfl) (by decide) (by decide) (by decide) (Nat.le_of_ble_eq_true rfl) (Nat.le_of_ble_eq_true rfl) dX0_init_76 (fun q117 k118 H hK hP hD hS => ?_)
  have hP : va_P (dC, dI) classes [(q0, .inr (0, [.ref q101, .ref q103, .ref q105, .ref q107, .ref q109, .int 0, .ref q111, .ref q113, .ref q115, .null, .null, .null, .null, .null, .int 0, .null, .null, .null, .null])), (q117, .inl (k118, 40, .inl (fun _ => 0)))] H := hP
  have hD : va_D A [(q0, .inr (0, [.ref q101, .ref q103, .ref q105, .ref q107, .ref q109, .int 0, .ref q111, .ref q113, .ref q115, .null, .null, .null, .null, .null, .int 0, .null, .null, .null, .null])), (q117, .inl (k118, 40, .inl (fun _ => 0)))] := hD
  have hK : va_K (dC, dI) classes [(k118, .int)] s := hK
  refine W.widen (k := 9) (n := 660) (Nat.le_of_ble_eq_true rfl) (Nat.le_of_ble_eq_true rfl) ?_
  refine va_putF (D := (dC, dI)) (ci := 0) (v := .ref q117) (ty := .array .int) (C := RX0) (T := TX0) (N := 19) hx hb hts (fun w h => mc (in_X0 w h)) tyX0 tyX0_ok nmX0 hown hK hP hD hS 0 rfl rfl 9 (by decide) (hts _ (mc m_65)) (fun _ h9 => h9) rfl hin rfl (by decide +kernel) (by first | rfl | decide) (by first | rfl | decide) (Nat.le_of_ble_eq_true rfl) dX0_init_78 (fun H locs hP hD hS => ?_)
  have hP : va_P (dC, dI) classes [(q0, .inr (0, [.ref q101, .ref q103, .ref q105, .ref q107, .ref q109, .int 0, .ref q111, .ref q113, .ref q115, .ref q117, .null, .null, .null, .null, .int 0, .null, .null, .null, .null])), (q117, .inl (k118, 40, .inl (fun _ => 0)))] H := hP
  have hD : va_D A [(q0, .inr (0, [.ref q101, .ref q103, .ref q105, .ref q107, .ref q109, .int 0, .ref q111, .ref q113, .ref q115, .ref q117, .null, .null, .null, .null, .int 0, .null, .null, .null, .null])), (q117, .inl (k118, 40, .inl (fun _ => 0)))] := hD
  have hP := hP.sub (ws' := [(q0, .inr (0, [.ref q101, .ref q103, .ref q105, .ref q107, .ref q109, .int 0, .ref q111, .ref q113, .ref q115, .ref q117, .null, .null, .null, .null, .int 0, .null, .null, .null, .null]))]) [0] rfl
  have hD := hD.sub (ws' := [(q0, .inr (0, [.ref q101, .ref q103, .ref q105, .ref q107, .ref q109, .int 0, .ref q111, .ref q113, .ref q115, .ref q117, .null, .null, .null, .null, .int 0, .null, .null, .null, .null]))]) [0] (by decide) rfl
  have hK := hK.sub (tys' := []) [] rfl
  refine lv_aload_n hx hb dX0_init_81 rfl (lv_at hl 0 rfl) ?_
  refine lv_bipush (v := 40) hx hb dX0_init_82 (by decide) ?_
  refine va_newa (atype := .int) (ty := .int) (N' := 40) (a0 := (40, .inl (fun _ => 0))) hx hb (hts _ (mc m_22)) rfl hK hP hD hS hA (fun _ => rfl) (by decide) (by decide) (by decide) (Nat.le_of_ble_eq_true rfl) (Nat.le_of_ble_eq_true rfl) dX0_init_84 (fun q119 k120 H hK hP hD hS => ?_)
  have hP : va_P (dC, dI) classes [(q0, .inr (0, [.ref q101, .ref q103, .ref q105, .ref q107, .ref q109, .int 0, .ref q111, .ref q113, .ref q115, .ref q117, .null, .null, .null, .null, .int 0, .null, .null, .null, .null])), (q119, .inl (k120, 40, .inl (fun _ => 0)))] H := hP
  have hD : va_D A [(q0, .inr (0, [.ref q101, .ref q103, .ref q105, .ref q107, .ref q109, .int 0, .ref q111, .ref q113, .ref q115, .ref q117, .null, .null, .null, .null, .int 0, .null, .null, .null, .null])), (q119, .inl (k120, 40, .inl (fun _ => 0)))] := hD
  have hK : va_K (dC, dI) classes [(k120, .int)] s := hK
  refine W.widen (k := 10) (n := 700) (Nat.le_of_ble_eq_true rfl) (Nat.le_of_ble_eq_true rfl) ?_
  refine va_putF (D := (dC, dI)) (ci := 0) (v := .ref q119) (ty := .array .int) (C := RX0) (T := TX0) (N := 19) hx hb hts (fun w h => mc (in_X0 w h)) tyX0 tyX0_ok nmX0 hown hK hP hD hS 0 rfl rfl 10 (by decide) (hts _ (mc m_66)) (fun _ h9 => h9) rfl hin rfl (by decide +kernel) (by first | rfl | decide) (by first | rfl | decide) (Nat.le_of_ble_eq_true rfl) dX0_init_86 (fun H locs hP hD hS => ?_)
  have hP : va_P (dC, dI) classes [(q0, .inr (0, [.ref q101, .ref q103, .ref q105, .ref q107, .ref q109, .int 0, .ref q111, .ref q113, .ref q115, .ref q117, .ref q119, .null, .null, .null, .int 0, .null, .null, .null, .null])), (q119, .inl (k120, 40, .inl (fun _ => 0)))] H := hP
  have hD : va_D A [(q0, .inr (0, [.ref q101, .ref q103, .ref q105, .ref q107, .ref q109, .int 0, .ref q111, .ref q113, .ref q115, .ref q117, .ref q119, .null, .null, .null, .int 0, .null, .null, .null, .null])), (q119, .inl (k120, 40, .inl (fun _ => 0)))] := hD
  have hP := hP.sub (ws' := [(q0, .inr (0, [.ref q101, .ref q103, .ref q105, .ref q107, .ref q109, .int 0, .ref q111, .ref q113, .ref q115, .ref q117, .ref q119, .null, .null, .null, .int 0, .null, .null, .null, .null]))]) [0] rfl
  have hD := hD.sub (ws' := [(q0, .inr (0, [.ref q101, .ref q103, .ref q105, .ref q107, .ref q109, .int 0, .ref q111, .ref q113, .ref q115, .ref q117, .ref q119, .null, .null, .null, .int 0, .null, .null, .null, .null]))]) [0] (by decide) rfl
  have hK := hK.sub (tys' := []) [] rfl
  refine lv_aload_n hx hb dX0_init_89 rfl (lv_at hl 0 rfl) ?_
  refine lv_bipush (v := 40) hx hb dX0_init_90 (by decide) ?_
  refine va_newa (atype := .int) (ty := .int) (N' := 40) (a0 := (40, .inl (fun _ => 0))) hx hb (hts _ (mc m_22)) rfl hK hP hD hS hA (fun _ => rfl) (by decide) (by decide) (by decide) (Nat.le_of_ble_eq_true rfl) (Nat.le_of_ble_eq_true rfl) dX0_init_92 (fun q121 k122 H hK hP hD hS => ?_)
  have hP : va_P (dC, dI) classes [(q0, .inr (0, [.ref q101, .ref q103, .ref q105, .ref q107, .ref q109, .int 0, .ref q111, .ref q113, .ref q115, .ref q117, .ref q119, .null, .null, .null, .int 0, .null, .null, .null, .null])), (q121, .inl (k122, 40, .inl (fun _ => 0)))] H := hP
  have hD : va_D A [(q0, .inr (0, [.ref q101, .ref q103, .ref q105, .ref q107, .ref q109, .int 0, .ref q111, .ref q113, .ref q115, .ref q117, .ref q119, .null, .null, .null, .int 0, .null, .null, .null, .null])), (q121, .inl (k122, 40, .inl (fun _ => 0)))] := hD
  have hK : va_K (dC, dI) classes [(k122, .int)] s := hK
  refine W.widen (k := 11) (n := 740) (Nat.le_of_ble_eq_true rfl) (Nat.le_of_ble_eq_true rfl) ?_
  refine va_putF (D := (dC, dI)) (ci := 0) (v := .ref q121) (ty := .array .int) (C := RX0) (T := TX0) (N := 19) hx hb hts (fun w h => mc (in_X0 w h)) tyX0 tyX0_ok nmX0 hown hK hP hD hS 0 rfl rfl 11 (by decide) (hts _ (mc m_67)) (fun _ h9 => h9) rfl hin rfl (by decide +kernel) (by first | rfl | decide) (by first | rfl | decide) (Nat.le_of_ble_eq_true rfl) dX0_init_94 (fun H locs hP hD hS => ?_)
  have hP : va_P (dC, dI) classes [(q0, .inr (0, [.ref q101, .ref q103, .ref q105, .ref q107, .ref q109, .int 0, .ref q111, .ref q113, .ref q115, .ref q117, .ref q119, .ref q121, .null, .null, .int 0, .null, .null, .null, .null])), (q121, .inl (k122, 40, .inl (fun _ => 0)))] H := hP
  have hD : va_D A [(q0, .inr (0, [.ref q101, .ref q103, .ref q105, .ref q107, .ref q109, .int 0, .ref q111, .ref q113, .ref q115, .ref q117, .ref q119, .ref q121, .null, .null, .int 0, .null, .null, .null, .null])), (q121, .inl (k122, 40, .inl (fun _ => 0)))] := hD
  have hP := hP.sub (ws' := [(q0, .inr (0, [.ref q101, .ref q103, .ref q105, .ref q107, .ref q109, .int 0, .ref q111, .ref q113, .ref q115, .ref q117, .ref q119, .ref q121, .null, .null, .int 0, .null, .null, .null, .null]))]) [0] rfl
  have hD := hD.sub (ws' := [(q0, .inr (0, [.ref q101, .ref q103, .ref q105, .ref q107, .ref q109, .int 0, .ref q111, .ref q113, .ref q115, .ref q117, .ref q119, .ref q121, .null, .null, .int 0, .null, .null, .null, .null]))]) [0] (by decide) rfl
  have hK := hK.sub (tys' := []) [] rfl
  refine lv_aload_n hx hb dX0_init_97 rfl (lv_at hl 0 rfl) ?_
  refine lv_bipush (v := 40) hx hb dX0_init_98 (by decide) ?_
  refine va_newa (atype := .int) (ty := .int) (N' := 40) (a0 := (40, .inl (fun _ => 0))) hx hb (hts _ (mc m_22)) rfl hK hP hD hS hA (fun _ => rfl) (by decide) (by decide) (by decide) (Nat.le_of_ble_eq_true rfl) (Nat.le_of_ble_eq_true rfl) dX0_init_100 (fun q123 k124 H hK hP hD hS => ?_)
  have hP : va_P (dC, dI) classes [(q0, .inr (0, [.ref q101, .ref q103, .ref q105, .ref q107, .ref q109, .int 0, .ref q111, .ref q113, .ref q115, .ref q117, .ref q119, .ref q121, .null, .null, .int 0, .null, .null, .null, .null])), (q123, .inl (k124, 40, .inl (fun _ => 0)))] H := hP
  have hD : va_D A [(q0, .inr (0, [.ref q101, .ref q103, .ref q105, .ref q107, .ref q109, .int 0, .ref q111, .ref q113, .ref q115, .ref q117, .ref q119, .ref q121, .null, .null, .int 0, .null, .null, .null, .null])), (q123, .inl (k124, 40, .inl (fun _ => 0)))] := hD
  have hK : va_K (dC, dI) classes [(k124, .int)] s := hK
  refine W.widen (k := 12) (n := 780) (Nat.le_of_ble_eq_true rfl) (Nat.le_of_ble_eq_true rfl) ?_
  refine va_putF (D := (dC, dI)) (ci := 0) (v := .ref q123) (ty := .array .int) (C := RX0) (T := TX0) (N := 19) hx hb hts (fun w h => mc (in_X0 w h)) tyX0 tyX0_ok nmX0 hown hK hP hD hS 0 rfl rfl 12 (by decide) (hts _ (mc m_68)) (fun _ h9 => h9) rfl hin rfl (by decide +kernel) (by first | rfl | decide) (by first | rfl | decide) (Nat.le_of_ble_eq_true rfl) dX0_init_102 (fun H locs hP hD hS => ?_)
  have hP : va_P (dC, dI) classes [(q0, .inr (0, [.ref q101, .ref q103, .ref q105, .ref q107, .ref q109, .int 0, .ref q111, .ref q113, .ref q115, .ref q117, .ref q119, .ref q121, .ref q123, .null, .int 0, .null, .null, .null, .null])), (q123, .inl (k124, 40, .inl (fun _ => 0)))] H := hP
  have hD : va_D A [(q0, .inr (0, [.ref q101, .ref q103, .ref q105, .ref q107, .ref q109, .int 0, .ref q111, .ref q113, .ref q115, .ref q117, .ref q119, .ref q121, .ref q123, .null, .int 0, .null, .null, .null, .null])), (q123, .inl (k124, 40, .inl (fun _ => 0)))] := hD
  have hP := hP.sub (ws' := [(q0, .inr (0, [.ref q101, .ref q103, .ref q105, .ref q107, .ref q109, .int 0, .ref q111, .ref q113, .ref q115, .ref q117, .ref q119, .ref q121, .ref q123, .null, .int 0, .null, .null, .null, .null]))]) [0] rfl
  have hD := hD.sub (ws' := [(q0, .inr (0, [.ref q101, .ref q103, .ref q105, .ref q107, .ref q109, .int 0, .ref q111, .ref q113, .ref q115, .ref q117, .ref q119, .ref q121, .ref q123, .null, .int 0, .null, .null, .null, .null]))]) [0] (by decide) rfl
  have hK := hK.sub (tys' := []) [] rfl
  refine lv_aload_n hx hb dX0_init_105 rfl (lv_at hl 0 rfl) ?_
  refine lv_bipush (v := 40) hx hb dX0_init_106 (by decide) ?_
  refine va_newa (atype := .int) (ty := .int) (N' := 40) (a0 := (40, .inl (fun _ => 0))) hx hb (hts _ (mc m_22)) rfl hK hP hD hS hA (fun _ => rfl) (by decide) (by decide) (by decide) (Nat.le_of_ble_eq_true rfl) (Nat.le_of_ble_eq_true rfl) dX0_init_108 (fun q125 k126 H hK hP hD hS => ?_)
  have hP : va_P (dC, dI) classes [(q0, .inr (0, [.ref q101, .ref q103, .ref q105, .ref q107, .ref q109, .int 0, .ref q111, .ref q113, .ref q115, .ref q117, .ref q119, .ref q121, .ref q123, .null, .int 0, .null, .null, .null, .null])), (q125, .inl (k126, 40, .inl (fun _ => 0)))] H := hP
  have hD : va_D A [(q0, .inr (0, [.ref q101, .ref q103, .ref q105, .ref q107, .ref q109, .int 0, .ref q111, .ref q113, .ref q115, .ref q117, .ref q119, .ref q121, .ref q123, .null, .int 0, .null, .null, .null, .null])), (q125, .inl (k126, 40, .inl (fun _ => 0)))] := hD
  have hK : va_K (dC, dI) classes [(k126, .int)] s := hK
  refine W.widen (k := 13) (n := 820) (Nat.le_of_ble_eq_true rfl) (Nat.le_of_ble_eq_true rfl) ?_
  refine va_putF (D := (dC, dI)) (ci := 0) (v := .ref q125) (ty := .array .int) (C := RX0) (T := TX0) (N := 19) hx hb hts (fun w h => mc (in_X0 w h)) tyX0 tyX0_ok nmX0 hown hK hP hD hS 0 rfl rfl 13 (by decide) (hts _ (mc m_69)) (fun _ h9 => h9) rfl hin rfl (by decide +kernel) (by first | rfl | decide) (by first | rfl | decide) (Nat.le_of_ble_eq_true rfl) dX0_init_110 (fun H locs hP hD hS => ?_)
  have hP : va_P (dC, dI) classes [(q0, .inr (0, [.ref q101, .ref q103, .ref q105, .ref q107, .ref q109, .int 0, .ref q111, .ref q113, .ref q115, .ref q117, .ref q119, .ref q121, .ref q123, .ref q125, .int 0, .null, .null, .null, .null])), (q125, .inl (k126, 40, .inl (fun _ => 0)))] H := hP
  have hD : va_D A [(q0, .inr (0, [.ref q101, .ref q103, .ref q105, .ref q107, .ref q109, .int 0, .ref q111, .ref q113, .ref q115, .ref q117, .ref q119, .ref q121, .ref q123, .ref q125, .int 0, .null, .null, .null, .null])), (q125, .inl (k126, 40, .inl (fun _ => 0)))] := hD
  have hP := hP.sub (ws' := [(q0, .inr (0, [.ref q101, .ref q103, .ref q105, .ref q107, .ref q109, .int 0, .ref q111, .ref q113, .ref q115, .ref q117, .ref q119, .ref q121, .ref q123, .ref q125, .int 0, .null, .null, .null, .null]))]) [0] rfl
  have hD := hD.sub (ws' := [(q0, .inr (0, [.ref q101, .ref q103, .ref q105, .ref q107, .ref q109, .int 0, .ref q111, .ref q113, .ref q115, .ref q117, .ref q119, .ref q121, .ref q123, .ref q125, .int 0, .null, .null, .null, .null]))]) [0] (by decide) rfl
  have hK := hK.sub (tys' := []) [] rfl
  refine lv_aload_n hx hb dX0_init_113 rfl (lv_at hl 0 rfl) ?_
  refine lv_iconst (v := 0) hx hb dX0_init_114 (by decide) ?_
  refine va_put (D := (dC, dI)) (ci := 0) (v := .int 0) (ty := .int) (C := RX0) (T := TX0) (N := 19) hx hb hts (fun w h => mc (in_X0 w h)) tyX0 tyX0_ok nmX0 hown hK hP hD hS 0 rfl rfl 14 (by decide) (hts _ (mc m_70)) (fun _ h9 => h9) rfl (by decide +kernel) (by first | rfl | decide) (by first | rfl | decide) (Nat.le_of_ble_eq_true rfl) dX0_init_115 (fun H locs hP hD hS => ?_)
  have hP : va_P (dC, dI) classes [(q0, .inr (0, [.ref q101, .ref q103, .ref q105, .ref q107, .ref q109, .int 0, .ref q111, .ref q113, .ref q115, .ref q117, .ref q119, .ref q121, .ref q123, .ref q125, .int 0, .null, .null, .null, .null]))] H := hP
  have hD : va_D A [(q0, .inr (0, [.ref q101, .ref q103, .ref q105, .ref q107, .ref q109, .int 0, .ref q111, .ref q113, .ref q115, .ref q117, .ref q119, .ref q121, .ref q123, .ref q125, .int 0, .null, .null, .null, .null]))] := hD
  refine lv_aload_n hx hb dX0_init_118 rfl (lv_at hl 0 rfl) ?_
  refine lv_sipush (v := 4000) hx hb dX0_init_119 (by decide) ?_
  refine va_newa (atype := .int) (ty := .int) (N' := 4000) (a0 := (4000, .inl (fun _ => 0))) hx hb (hts _ (mc m_22)) rfl hK hP hD hS hA (fun _ => rfl) (by decide) (by decide) (by decide) (Nat.le_of_ble_eq_true rfl) (Nat.le_of_ble_eq_true rfl) dX0_init_122 (fun q127 k128 H hK hP hD hS => ?_)
  have hP : va_P (dC, dI) classes [(q0, .inr (0, [.ref q101, .ref q103, .ref q105, .ref q107, .ref q109, .int 0, .ref q111, .ref q113, .ref q115, .ref q117, .ref q119, .ref q121, .ref q123, .ref q125, .int 0, .null, .null, .null, .null])), (q127, .inl (k128, 4000, .inl (fun _ => 0)))] H := hP
  have hD : va_D A [(q0, .inr (0, [.ref q101, .ref q103, .ref q105, .ref q107, .ref q109, .int 0, .ref q111, .ref q113, .ref q115, .ref q117, .ref q119, .ref q121, .ref q123, .ref q125, .int 0, .null, .null, .null, .null])), (q127, .inl (k128, 4000, .inl (fun _ => 0)))] := hD
  have hK : va_K (dC, dI) classes [(k128, .int)] s := hK
  refine W.widen (k := 14) (n := 4820) (Nat.le_of_ble_eq_true rfl) (Nat.le_of_ble_eq_true rfl) ?_
  refine va_putF (D := (dC, dI)) (ci := 0) (v := .ref q127) (ty := .array .int) (C := RX0) (T := TX0) (N := 19) hx hb hts (fun w h => mc (in_X0 w h)) tyX0 tyX0_ok nmX0 hown hK hP hD hS 0 rfl rfl 15 (by decide) (hts _ (mc m_71)) (fun _ h9 => h9) rfl hin rfl (by decide +kernel) (by first | rfl | decide) (by first | rfl | decide) (Nat.le_of_ble_eq_true rfl) dX0_init_124 (fun H locs hP hD hS => ?_)
  have hP : va_P (dC, dI) classes [(q0, .inr (0, [.ref q101, .ref q103, .ref q105, .ref q107, .ref q109, .int 0, .ref q111, .ref q113, .ref q115, .ref q117, .ref q119, .ref q121, .ref q123, .ref q125, .int 0, .ref q127, .null, .null, .null])), (q127, .inl (k128, 4000, .inl (fun _ => 0)))] H := hP
  have hD : va_D A [(q0, .inr (0, [.ref q101, .ref q103, .ref q105, .ref q107, .ref q109, .int 0, .ref q111, .ref q113, .ref q115, .ref q117, .ref q119, .ref q121, .ref q123, .ref q125, .int 0, .ref q127, .null, .null, .null])), (q127, .inl (k128, 4000, .inl (fun _ => 0)))] := hD
  have hP := hP.sub (ws' := [(q0, .inr (0, [.ref q101, .ref q103, .ref q105, .ref q107, .ref q109, .int 0, .ref q111, .ref q113, .ref q115, .ref q117, .ref q119, .ref q121, .ref q123, .ref q125, .int 0, .ref q127, .null, .null, .null]))]) [0] rfl
  have hD := hD.sub (ws' := [(q0, .inr (0, [.ref q101, .ref q103, .ref q105, .ref q107, .ref q109, .int 0, .ref q111, .ref q113, .ref q115, .ref q117, .ref q119, .ref q121, .ref q123, .ref q125, .int 0, .ref q127, .null, .null, .null]))]) [0] (by decide) rfl
  have hK := hK.sub (tys' := []) [] rfl
  refine lv_aload_n hx hb dX0_init_127 rfl (lv_at hl 0 rfl) ?_
  refine lv_bipush (v := 40) hx hb dX0_init_128 (by decide) ?_
  refine va_newa (atype := .int) (ty := .int) (N' := 40) (a0 := (40, .inl (fun _ => 0))) hx hb (hts _ (mc m_22)) rfl hK hP hD hS hA (fun _ => rfl) (by decide) (by decide) (by decide) (Nat.le_of_ble_eq_true rfl) (Nat.le_of_ble_eq_true rfl) dX0_init_130 (fun q129 k130 H hK hP hD hS => ?_)
  have hP : va_P (dC, dI) classes [(q0, .inr (0, [.ref q101, .ref q103, .ref q105, .ref q107, .ref q109, .int 0, .ref q111, .ref q113, .ref q115, .ref q117, .ref q119, .ref q121, .ref q123, .ref q125, .int 0, .ref q127, .null, .null, .null])), (q129, .inl (k130, 40, .inl (fun _ => 0)))] H := hP
  have hD : va_D A [(q0, .inr (0, [.ref q101, .ref q103, .ref q105, .ref q107, .ref q109, .int 0, .ref q111, .ref q113, .ref q115, .ref q117, .ref q119, .ref q121, .ref q123, .ref q125, .int 0, .ref q127, .null, .null, .null])), (q129, .inl (k130, 40, .inl (fun _ => 0)))] := hD
  have hK : va_K (dC, dI) classes [(k130, .int)] s := hK
  refine W.widen (k := 15) (n := 4860) (Nat.le_of_ble_eq_true rfl) (Nat.le_of_ble_eq_true rfl) ?_
  refine va_putF (D := (dC, dI)) (ci := 0) (v := .ref q129) (ty := .array .int) (C := RX0) (T := TX0) (N := 19) hx hb hts (fun w h => mc (in_X0 w h)) tyX0 tyX0_ok nmX0 hown hK hP hD hS 0 rfl rfl 16 (by decide) (hts _ (mc m_72)) (fun _ h9 => h9) rfl hin rfl (by decide +kernel) (by first | rfl | decide) (by first | rfl | decide) (Nat.le_of_ble_eq_true rfl) dX0_init_132 (fun H locs hP hD hS => ?_)
  have hP : va_P (dC, dI) classes [(q0, .inr (0, [.ref q101, .ref q103, .ref q105, .ref q107, .ref q109, .int 0, .ref q111, .ref q113, .ref q115, .ref q117, .ref q119, .ref q121, .ref q123, .ref q125, .int 0, .ref q127, .ref q129, .null, .null])), (q129, .inl (k130, 40, .inl (fun _ => 0)))] H := hP
  have hD : va_D A [(q0, .inr (0, [.ref q101, .ref q103, .ref q105, .ref q107, .ref q109, .int 0, .ref q111, .ref q113, .ref q115, .ref q117, .ref q119, .ref q121, .ref q123, .ref q125, .int 0, .ref q127, .ref q129, .null, .null])), (q129, .inl (k130, 40, .inl (fun _ => 0)))] := hD
  have hP := hP.sub (ws' := [(q0, .inr (0, [.ref q101, .ref q103, .ref q105, .ref q107, .ref q109, .int 0, .ref q111, .ref q113, .ref q115, .ref q117, .ref q119, .ref q121, .ref q123, .ref q125, .int 0, .ref q127, .ref q129, .null, .null]))]) [0] rfl
  have hD := hD.sub (ws' := [(q0, .inr (0, [.ref q101, .ref q103, .ref q105, .ref q107, .ref q109, .int 0, .ref q111, .ref q113, .ref q115, .ref q117, .ref q119, .ref q121, .ref q123, .ref q125, .int 0, .ref q127, .ref q129, .null, .null]))]) [0] (by decide) rfl
  have hK := hK.sub (tys' := []) [] rfl
  refine lv_aload_n hx hb dX0_init_135 rfl (lv_at hl 0 rfl) ?_
  refine lv_sipush (v := 4000) hx hb dX0_init_136 (by decide) ?_
  refine va_newa (atype := .int) (ty := .int) (N' := 4000) (a0 := (4000, .inl (fun _ => 0))) hx hb (hts _ (mc m_22)) rfl hK hP hD hS hA (fun _ => rfl) (by decide) (by decide) (by decide) (Nat.le_of_ble_eq_true rfl) (Nat.le_of_ble_eq_true rfl) dX0_init_139 (fun q131 k132 H hK hP hD hS => ?_)
  have hP : va_P (dC, dI) classes [(q0, .inr (0, [.ref q101, .ref q103, .ref q105, .ref q107, .ref q109, .int 0, .ref q111, .ref q113, .ref q115, .ref q117, .ref q119, .ref q121, .ref q123, .ref q125, .int 0, .ref q127, .ref q129, .null, .null])), (q131, .inl (k132, 4000, .inl (fun _ => 0)))] H := hP
  have hD : va_D A [(q0, .inr (0, [.ref q101, .ref q103, .ref q105, .ref q107, .ref q109, .int 0, .ref q111, .ref q113, .ref q115, .ref q117, .ref q119, .ref q121, .ref q123, .ref q125, .int 0, .ref q127, .ref q129, .null, .null])), (q131, .inl (k132, 4000, .inl (fun _ => 0)))] := hD
  have hK : va_K (dC, dI) classes [(k132, .int)] s := hK
  refine W.widen (k := 16) (n := 8860) (Nat.le_of_ble_eq_true rfl) (Nat.le_of_ble_eq_true rfl) ?_
  refine va_putF (D := (dC, dI)) (ci := 0) (v := .ref q131) (ty := .array .int) (C := RX0) (T := TX0) (N := 19) hx hb hts (fun w h => mc (in_X0 w h)) tyX0 tyX0_ok nmX0 hown hK hP hD hS 0 rfl rfl 17 (by decide) (hts _ (mc m_73)) (fun _ h9 => h9) rfl hin rfl (by decide +kernel) (by first | rfl | decide) (by first | rfl | decide) (Nat.le_of_ble_eq_true rfl) dX0_init_141 (fun H locs hP hD hS => ?_)
  have hP : va_P (dC, dI) classes [(q0, .inr (0, [.ref q101, .ref q103, .ref q105, .ref q107, .ref q109, .int 0, .ref q111, .ref q113, .ref q115, .ref q117, .ref q119, .ref q121, .ref q123, .ref q125, .int 0, .ref q127, .ref q129, .ref q131, .null])), (q131, .inl (k132, 4000, .inl (fun _ => 0)))] H := hP
  have hD : va_D A [(q0, .inr (0, [.ref q101, .ref q103, .ref q105, .ref q107, .ref q109, .int 0, .ref q111, .ref q113, .ref q115, .ref q117, .ref q119, .ref q121, .ref q123, .ref q125, .int 0, .ref q127, .ref q129, .ref q131, .null])), (q131, .inl (k132, 4000, .inl (fun _ => 0)))] := hD
  have hP := hP.sub (ws' := [(q0, .inr (0, [.ref q101, .ref q103, .ref q105, .ref q107, .ref q109, .int 0, .ref q111, .ref q113, .ref q115, .ref q117, .ref q119, .ref q121, .ref q123, .ref q125, .int 0, .ref q127, .ref q129, .ref q131, .null]))]) [0] rfl
  have hD := hD.sub (ws' := [(q0, .inr (0, [.ref q101, .ref q103, .ref q105, .ref q107, .ref q109, .int 0, .ref q111, .ref q113, .ref q115, .ref q117, .ref q119, .ref q121, .ref q123, .ref q125, .int 0, .ref q127, .ref q129, .ref q131, .null]))]) [0] (by decide) rfl
  have hK := hK.sub (tys' := []) [] rfl
  refine lv_aload_n hx hb dX0_init_144 rfl (lv_at hl 0 rfl) ?_
  refine lv_bipush (v := 40) hx hb dX0_init_145 (by decide) ?_
  refine va_newa (atype := .int) (ty := .int) (N' := 40) (a0 := (40, .inl (fun _ => 0))) hx hb (hts _ (mc m_22)) rfl hK hP hD hS hA (fun _ => rfl) (by decide) (by decide) (by decide) (Nat.le_of_ble_eq_true rfl) (Nat.le_of_ble_eq_true rfl) dX0_init_147 (fun q133 k134 H hK hP hD hS => ?_)
  have hP : va_P (dC, dI) classes [(q0, .inr (0, [.ref q101, .ref q103, .ref q105, .ref q107, .ref q109, .int 0, .ref q111, .ref q113, .ref q115, .ref q117, .ref q119, .ref q121, .ref q123, .ref q125, .int 0, .ref q127, .ref q129, .ref q131, .null])), (q133, .inl (k134, 40, .inl (fun _ => 0)))] H := hP
  have hD : va_D A [(q0, .inr (0, [.ref q101, .ref q103, .ref q105, .ref q107, .ref q109, .int 0, .ref q111, .ref q113, .ref q115, .ref q117, .ref q119, .ref q121, .ref q123, .ref q125, .int 0, .ref q127, .ref q129, .ref q131, .null])), (q133, .inl (k134, 40, .inl (fun _ => 0)))] := hD
  have hK : va_K (dC, dI) classes [(k134, .int)] s := hK
  refine W.widen (k := 17) (n := 8900) (Nat.le_of_ble_eq_true rfl) (Nat.le_of_ble_eq_true rfl) ?_
  refine va_putF (D := (dC, dI)) (ci := 0) (v := .ref q133) (ty := .array .int) (C := RX0) (T := TX0) (N := 19) hx hb hts (fun w h => mc (in_X0 w h)) tyX0 tyX0_ok nmX0 hown hK hP hD hS 0 rfl rfl 18 (by decide) (hts _ (mc m_74)) (fun _ h9 => h9) rfl hin rfl (by decide +kernel) (by first | rfl | decide) (by first | rfl | decide) (Nat.le_of_ble_eq_true rfl) dX0_init_149 (fun H locs hP hD hS => ?_)
  have hP : va_P (dC, dI) classes [(q0, .inr (0, [.ref q101, .ref q103, .ref q105, .ref q107, .ref q109, .int 0, .ref q111, .ref q113, .ref q115, .ref q117, .ref q119, .ref q121, .ref q123, .ref q125, .int 0, .ref q127, .ref q129, .ref q131, .ref q133])), (q133, .inl (k134, 40, .inl (fun _ => 0)))] H := hP
  have hD : va_D A [(q0, .inr (0, [.ref q101, .ref q103, .ref q105, .ref q107, .ref q109, .int 0, .ref q111, .ref q113, .ref q115, .ref q117, .ref q119, .ref q121, .ref q123, .ref q125, .int 0, .ref q127, .ref q129, .ref q131, .ref q133])), (q133, .inl (k134, 40, .inl (fun _ => 0)))] := hD
  have hP := hP.sub (ws' := [(q0, .inr (0, [.ref q101, .ref q103, .ref q105, .ref q107, .ref q109, .int 0, .ref q111, .ref q113, .ref q115, .ref q117, .ref q119, .ref q121, .ref q123, .ref q125, .int 0, .ref q127, .ref q129, .ref q131, .ref q133]))]) [0] rfl
  have hD := hD.sub (ws' := [(q0, .inr (0, [.ref q101, .ref q103, .ref q105, .ref q107, .ref q109, .int 0, .ref q111, .ref q113, .ref q115, .ref q117, .ref q119, .ref q121, .ref q123, .ref q125, .int 0, .ref q127, .ref q129, .ref q131, .ref q133]))]) [0] (by decide) rfl
  have hK := hK.sub (tys' := []) [] rfl
  exact W.vret hx hb hr (fun t ht hW => ⟨⟨(), rfl, trivial, q101, q103, q105, q107, q109, q111, q113, q115, q117, q119, q121, q123, q125, q127, q129, q131, q133, by rw [ht]; exact hP, va_K.moved hW.alike hK, hD⟩, hS.F ht⟩) hS.2.2 dX0_init_152
set_option maxHeartbeats 4000000 in
set_option maxRecDepth 100000 in
theorem c_X7_init_0 (l : Launch) (dC : Nat → ClassId) (dI : Nat → Nat → Nat) (q0 : Nat) (sz : Nat) : Met l yX7_init (.code yX7_init cX7_init 2 none :: bigW) { frames := 2, cells := 35, slots := 54528, locals := 40 } (va_Pc [.ref q0, .int 3000] (q_In dC dI [(q0, .inr (7, [.null, .int 0, .null, .null, .null, .null, .null, .null, .null, .null, .int 0, .int 0, .int 0, .int 0, .null, .null]))] [] sz)) (va_Qv (fun _ : Unit => True) (fun _ t => ∃ (q101 : Nat) (q103 : Nat) (q105 : Nat) (q107 : Nat) (q109 : Nat) (q111 : Nat) (q113 : Nat) (q115 : Nat) (q117 : Nat) (q119 : Nat) (q133 : Nat) (k102 : ClassId) (q120 : Nat) (q121 : Nat) (q122 : Nat) (q123 : Nat) (q124 : Nat) (q125 : Nat) (q126 : Nat) (k127 : ClassId) (k128 : ClassId) (k129 : ClassId) (k130 : ClassId) (k131 : ClassId) (k132 : ClassId) (q134 : Nat) (q135 : Nat) (q136 : Nat) (q137 : Nat) (q138 : Nat) (q139 : Nat) (q140 : Nat) (q141 : Nat) (q142 : Nat) (q143 : Nat) (q144 : Nat) (q145 : Nat) (q146 : Nat) (q147 : Nat) (q148 : Nat) (q149 : Nat) (q150 : Nat), va_P (dC, dI) classes [(q0, .inr (7, [.ref q101, .int 0, .ref q103, .ref q105, .ref q107, .ref q109, .ref q111, .ref q113, .ref q115, .ref q117, .int 0, .int (-1), .int 0, .int (-1), .ref q119, .ref q133])), (q101, .inl (k102, 3000, .inl (fun _ => 0))), (q119, .inr (10, [.ref q120, .ref q121, .ref q122, .ref q123, .ref q124, .ref q125, .ref q126, .int 0, .int 0])), (q120, .inl (k127, 1600, .inl (fun _ => 0))), (q121, .inl (k128, 1600, .inl (fun _ => 0))), (q122, .inl (k129, 1600, .inl (fun _ => 0))), (q123, .inl (k130, 1600, .inl (fun _ => 0))), (q124, .inl (k131, 1600, .inl (fun _ => 0))), (q125, .inl (k132, 1600, .inl (fun _ => 0))), (q133, .inr (0, [.ref q134, .ref q135, .ref q136, .ref q137, .ref q138, .int 0, .ref q139, .ref q140, .ref q141, .ref q142, .ref q143, .ref q144, .ref q145, .ref q146, .int 0, .ref q147, .ref q148, .ref q149, .ref q150]))] t.heap ∧ va_K (dC, dI) classes [(k102, .byte), (k127, .int), (k128, .int), (k129, .int), (k130, .int), (k131, .int), (k132, .int)] t ∧ va_D (va_A [(q0, .inr (7, [.null, .int 0, .null, .null, .null, .null, .null, .null, .null, .null, .int 0, .int 0, .int 0, .int 0, .null, .null]))] sz) [(q0, .inr (7, [.ref q101, .int 0, .ref q103, .ref q105, .ref q107, .ref q109, .ref q111, .ref q113, .ref q115, .ref q117, .int 0, .int (-1), .int 0, .int (-1), .ref q119, .ref q133])), (q101, .inl (k102, 3000, .inl (fun _ => 0))), (q119, .inr (10, [.ref q120, .ref q121, .ref q122, .ref q123, .ref q124, .ref q125, .ref q126, .int 0, .int 0])), (q120, .inl (k127, 1600, .inl (fun _ => 0))), (q121, .inl (k128, 1600, .inl (fun _ => 0))), (q122, .inl (k129, 1600, .inl (fun _ => 0))), (q123, .inl (k130, 1600, .inl (fun _ => 0))), (q124, .inl (k131, 1600, .inl (fun _ => 0))), (q125, .inl (k132, 1600, .inl (fun _ => 0))), (q133, .inr (0, [.ref q134, .ref q135, .ref q136, .ref q137, .ref q138, .int 0, .ref q139, .ref q140, .ref q141, .ref q142, .ref q143, .ref q144, .ref q145, .ref q146, .int 0, .ref q147, .ref q148, .ref q149, .ref q150]))]) (va_A [(q0, .inr (7, [.null, .int 0, .null, .null, .null, .null, .null, .null, .null, .null, .int 0, .int 0, .int 0, .int 0, .null, .null]))] sz)) 35 54528 (va_A [(q0, .inr (7, [.null, .int 0, .null, .null, .null, .null, .null, .null, .null, .null, .int 0, .int 0, .int 0, .int 0, .null, .null]))] sz) := by
  refine Met.ofW (cc := cX7_init) (maxL := 2) (ret := none) (by decide) rfl ?_
  intro p e s m args below meth c s₁ B hml hv
  obtain ⟨rfl, hsz, hP, hK, hD0, hE⟩ := hv
  have hx := B.exec
  have hb := B.bytes
  have hr := B.returns
  have hts := atoms_spec (ws := .code yX7_init cX7_init 2 none :: bigW) B.pre
  have hown : s.vm.findClass RX7 = some m.cls := findClass_of_methodNamed B.named
  have hlocks := B.notSynchronized
  have hin : meth.name = "<init>" := (name_of_methodNamed B.named B.method).1
  subst hsz
  have hD := hD0.self (sz := s.heap.size)
  generalize hAe : va_A [(q0, .inr (7, [.null, .int 0, .null, .null, .null, .null, .null, .null, .null, .null, .int 0, .int 0, .int 0, .int 0, .null, .null]))] s.heap.size = A at hD hE ⊢
  have hN : q_N s := hE.2.2.2.1
  have hA : ∀ q : Nat, s.heap.size ≤ q → A q := fun q h => by rw [← hAe]; exact Or.inr h
  have hS : va_S A s.heap s.heap [] := va_S.rf
  have hP : va_P (dC, dI) classes [(q0, .inr (7, [.null, .int 0, .null, .null, .null, .null, .null, .null, .null, .null, .int 0, .int 0, .int 0, .int 0, .null, .null]))] s.heap := hP
  have hl := lv_entry ([.ref q0, .int 3000]) (n := 2) (Nat.le_of_ble_eq_true rfl)
  rw [lg_entry_eq]
  generalize (lg_sl ([.ref q0, .int 3000]) ++ List.replicate (2 - (lg_sl ([.ref q0, .int 3000])).length) Slot.unset).toArray = ls at hl ⊢
  have hl : lv_has ls 2 [(0, .ref q0), (1, .int 3000)] := hl
  refine lv_aload_n hx hb dX7_init_0 rfl (lv_at hl 0 rfl) ?_
  refine W.objInit hx hb hown (hts _ (mc m_19)) (hts _ (mc m_1)) (hts _ (mc m_2)) rfl (by rw [hml]; exact hl.1) rfl dX7_init_1 (Nat.le_of_ble_eq_true rfl) (Nat.le_of_ble_eq_true rfl) ?_
  refine W.eq (g2 := F0 m 4 ls []) rfl ?_
  refine lv_aload_n hx hb dX7_init_4 rfl (lv_at hl 0 rfl) ?_
  refine lv_iload_n hx hb dX7_init_5 rfl (lv_at hl 1 rfl) ?_
  refine lv_if_le (tgt := 13) hx hb dX7_init_6 (by decide) (fun c9 => absurd c9 (by decide)) (fun _ => ?_)
  refine lv_iload_n hx hb dX7_init_9 rfl (lv_at hl 1 rfl) ?_
  refine lv_goto (tgt := 14) hx hb dX7_init_10 (by decide) ?_
  refine va_newa (atype := .byte) (ty := .byte) (N' := 3000) (a0 := (3000, .inl (fun _ => 0))) hx hb (hts _ (mc m_3)) rfl hK hP hD hS hA (fun _ => rfl) (by decide) (by decide) (by decide) (Nat.le_of_ble_eq_true rfl) (Nat.le_of_ble_eq_true rfl) dX7_init_14 (fun q101 k102 H hK hP hD hS => ?_)
  have hP : va_P (dC, dI) classes [(q0, .inr (7, [.null, .int 0, .null, .null, .null, .null, .null, .null, .null, .null, .int 0, .int 0, .int 0, .int 0, .null, .null])), (q101, .inl (k102, 3000, .inl (fun _ => 0)))] H := hP
  have hD : va_D A [(q0, .inr (7, [.null, .int 0, .null, .null, .null, .null, .null, .null, .null, .null, .int 0, .int 0, .int 0, .int 0, .null, .null])), (q101, .inl (k102, 3000, .inl (fun _ => 0)))] := hD
  have hK : va_K (dC, dI) classes [(k102, .byte)] s := hK
  refine W.widen (k := 1) (n := 3000) (Nat.le_of_ble_eq_true rfl) (Nat.le_of_ble_eq_true rfl) ?_
  refine va_putF (D := (dC, dI)) (ci := 7) (v := .ref q101) (ty := .array .byte) (C := RX7) (T := TX7) (N := 16) hx hb hts (fun w h => mc (in_X7 w h)) tyX7 tyX7_ok nmX7 hown hK hP hD hS 0 rfl rfl 0 (by decide) (hts _ (mc m_20)) (fun _ h9 => h9) rfl hin rfl (by decide +kernel) (by first | rfl | decide) (by first | rfl | decide) (Nat.le_of_ble_eq_true rfl) dX7_init_16 (fun H locs hP hD hS => ?_)
  have hP : va_P (dC, dI) classes [(q0, .inr (7, [.ref q101, .int 0, .null, .null, .null, .null, .null, .null, .null, .null, .int 0, .int 0, .int 0, .int 0, .null, .null])), (q101, .inl (k102, 3000, .inl (fun _ => 0)))] H := hP
  have hD : va_D A [(q0, .inr (7, [.ref q101, .int 0, .null, .null, .null, .null, .null, .null, .null, .null, .int 0, .int 0, .int 0, .int 0, .null, .null])), (q101, .inl (k102, 3000, .inl (fun _ => 0)))] := hD
  refine lv_aload_n hx hb dX7_init_19 rfl (lv_at hl 0 rfl) ?_
  refine lv_iconst (v := 0) hx hb dX7_init_20 (by decide) ?_
  refine va_put (D := (dC, dI)) (ci := 7) (v := .int 0) (ty := .int) (C := RX7) (T := TX7) (N := 16) hx hb hts (fun w h => mc (in_X7 w h)) tyX7 tyX7_ok nmX7 hown hK hP hD hS 0 rfl rfl 1 (by decide) (hts _ (mc m_21)) (fun _ h9 => h9) rfl (by decide +kernel) (by first | rfl | decide) (by first | rfl | decide) (Nat.le_of_ble_eq_true rfl) dX7_init_21 (fun H locs hP hD hS => ?_)
  have hP : va_P (dC, dI) classes [(q0, .inr (7, [.ref q101, .int 0, .null, .null, .null, .null, .null, .null, .null, .null, .int 0, .int 0, .int 0, .int 0, .null, .null])), (q101, .inl (k102, 3000, .inl (fun _ => 0)))] H := hP
  have hD : va_D A [(q0, .inr (7, [.ref q101, .int 0, .null, .null, .null, .null, .null, .null, .null, .null, .int 0, .int 0, .int 0, .int 0, .null, .null])), (q101, .inl (k102, 3000, .inl (fun _ => 0)))] := hD
  refine lv_aload_n hx hb dX7_init_24 rfl (lv_at hl 0 rfl) ?_
  refine lv_sipush (v := 4000) hx hb dX7_init_25 (by decide) ?_
  refine va_newa (atype := .int) (ty := .int) (N' := 4000) (a0 := (4000, .inl (fun _ => 0))) hx hb (hts _ (mc m_22)) rfl hK hP hD hS hA (fun _ => rfl) (by decide) (by decide) (by decide) (Nat.le_of_ble_eq_true rfl) (Nat.le_of_ble_eq_true rfl) dX7_init_28 (fun q103 k104 H hK hP hD hS => ?_)
  have hP : va_P (dC, dI) classes [(q0, .inr (7, [.ref q101, .int 0, .null, .null, .null, .null, .null, .null, .null, .null, .int 0, .int 0, .int 0, .int 0, .null, .null])), (q101, .inl (k102, 3000, .inl (fun _ => 0))), (q103, .inl (k104, 4000, .inl (fun _ => 0)))] H := hP
  have hD : va_D A [(q0, .inr (7, [.ref q101, .int 0, .null, .null, .null, .null, .null, .null, .null, .null, .int 0, .int 0, .int 0, .int 0, .null, .null])), (q101, .inl (k102, 3000, .inl (fun _ => 0))), (q103, .inl (k104, 4000, .inl (fun _ => 0)))] := hD
  have hK : va_K (dC, dI) classes [(k102, .byte), (k104, .int)] s := hK
  refine W.widen (k := 2) (n := 7000) (Nat.le_of_ble_eq_true rfl) (Nat.le_of_ble_eq_true rfl) ?_
  refine va_putF (D := (dC, dI)) (ci := 7) (v := .ref q103) (ty := .array .int) (C := RX7) (T := TX7) (N := 16) hx hb hts (fun w h => mc (in_X7 w h)) tyX7 tyX7_ok nmX7 hown hK hP hD hS 0 rfl rfl 2 (by decide) (hts _ (mc m_23)) (fun _ h9 => h9) rfl hin rfl (by decide +kernel) (by first | rfl | decide) (by first | rfl | decide) (Nat.le_of_ble_eq_true rfl) dX7_init_30 (fun H locs hP hD hS => ?_)
  have hP : va_P (dC, dI) classes [(q0, .inr (7, [.ref q101, .int 0, .ref q103, .null, .null, .null, .null, .null, .null, .null, .int 0, .int 0, .int 0, .int 0, .null, .null])), (q101, .inl (k102, 3000, .inl (fun _ => 0))), (q103, .inl (k104, 4000, .inl (fun _ => 0)))] H := hP
  have hD : va_D A [(q0, .inr (7, [.ref q101, .int 0, .ref q103, .null, .null, .null, .null, .null, .null, .null, .int 0, .int 0, .int 0, .int 0, .null, .null])), (q101, .inl (k102, 3000, .inl (fun _ => 0))), (q103, .inl (k104, 4000, .inl (fun _ => 0)))] := hD
  have hP := hP.sub (ws' := [(q0, .inr (7, [.ref q101, .int 0, .ref q103, .null, .null, .null, .null, .null, .null, .null, .int 0, .int 0, .int 0, .int 0, .null, .null])), (q101, .inl (k102, 3000, .inl (fun _ => 0)))]) [0, 1] rfl
  have hD := hD.sub (ws' := [(q0, .inr (7, [.ref q101, .int 0, .ref q103, .null, .null, .null, .null, .null, .null, .null, .int 0, .int 0, .int 0, .int 0, .null, .null])), (q101, .inl (k102, 3000, .inl (fun _ => 0)))]) [0, 1] (by decide) rfl
  have hK := hK.sub (tys' := [(k102, .byte)]) [0] rfl
  refine lv_aload_n hx hb dX7_init_33 rfl (lv_at hl 0 rfl) ?_
  refine lv_sipush (v := 4000) hx hb dX7_init_34 (by decide) ?_
  refine va_newa (atype := .int) (ty := .int) (N' := 4000) (a0 := (4000, .inl (fun _ => 0))) hx hb (hts _ (mc m_22)) rfl hK hP hD hS hA (fun _ => rfl) (by decide) (by decide) (by decide) (Nat.le_of_ble_eq_true rfl) (Nat.le_of_ble_eq_true rfl) dX7_init_37 (fun q105 k106 H hK hP hD hS => ?_)
  have hP : va_P (dC, dI) classes [(q0, .inr (7, [.ref q101, .int 0, .ref q103, .null, .null, .null, .null, .null, .null, .null, .int 0, .int 0, .int 0, .int 0, .null, .null])), (q101, .inl (k102, 3000, .inl (fun _ => 0))), (q105, .inl (k106, 4000, .inl (fun _ => 0)))] H := hP
  have hD : va_D A [(q0, .inr (7, [.ref q101, .int 0, .ref q103, .null, .null, .null, .null, .null, .null, .null, .int 0, .int 0, .int 0, .int 0, .null, .null])), (q101, .inl (k102, 3000, .inl (fun _ => 0))), (q105, .inl (k106, 4000, .inl (fun _ => 0)))] := hD
  have hK : va_K (dC, dI) classes [(k102, .byte), (k106, .int)] s := hK
  refine W.widen (k := 3) (n := 11000) (Nat.le_of_ble_eq_true rfl) (Nat.le_of_ble_eq_true rfl) ?_
  refine va_putF (D := (dC, dI)) (ci := 7) (v := .ref q105) (ty := .array .int) (C := RX7) (T := TX7) (N := 16) hx hb hts (fun w h => mc (in_X7 w h)) tyX7 tyX7_ok nmX7 hown hK hP hD hS 0 rfl rfl 3 (by decide) (hts _ (mc m_24)) (fun _ h9 => h9) rfl hin rfl (by decide +kernel) (by first | rfl | decide) (by first | rfl | decide) (Nat.le_of_ble_eq_true rfl) dX7_init_39 (fun H locs hP hD hS => ?_)
  have hP : va_P (dC, dI) classes [(q0, .inr (7, [.ref q101, .int 0, .ref q103, .ref q105, .null, .null, .null, .null, .null, .null, .int 0, .int 0, .int 0, .int 0, .null, .null])), (q101, .inl (k102, 3000, .inl (fun _ => 0))), (q105, .inl (k106, 4000, .inl (fun _ => 0)))] H := hP
  have hD : va_D A [(q0, .inr (7, [.ref q101, .int 0, .ref q103, .ref q105, .null, .null, .null, .null, .null, .null, .int 0, .int 0, .int 0, .int 0, .null, .null])), (q101, .inl (k102, 3000, .inl (fun _ => 0))), (q105, .inl (k106, 4000, .inl (fun _ => 0)))] := hD
  have hP := hP.sub (ws' := [(q0, .inr (7, [.ref q101, .int 0, .ref q103, .ref q105, .null, .null, .null, .null, .null, .null, .int 0, .int 0, .int 0, .int 0, .null, .null])), (q101, .inl (k102, 3000, .inl (fun _ => 0)))]) [0, 1] rfl
  have hD := hD.sub (ws' := [(q0, .inr (7, [.ref q101, .int 0, .ref q103, .ref q105, .null, .null, .null, .null, .null, .null, .int 0, .int 0, .int 0, .int 0, .null, .null])), (q101, .inl (k102, 3000, .inl (fun _ => 0)))]) [0, 1] (by decide) rfl
  have hK := hK.sub (tys' := [(k102, .byte)]) [0] rfl
  refine lv_aload_n hx hb dX7_init_42 rfl (lv_at hl 0 rfl) ?_
  refine lv_sipush (v := 4000) hx hb dX7_init_43 (by decide) ?_
  refine va_newa (atype := .int) (ty := .int) (N' := 4000) (a0 := (4000, .inl (fun _ => 0))) hx hb (hts _ (mc m_22)) rfl hK hP hD hS hA (fun _ => rfl) (by decide) (by decide) (by decide) (Nat.le_of_ble_eq_true rfl) (Nat.le_of_ble_eq_true rfl) dX7_init_46 (fun q107 k108 H hK hP hD hS => ?_)
  have hP : va_P (dC, dI) classes [(q0, .inr (7, [.ref q101, .int 0, .ref q103, .ref q105, .null, .null, .null, .null, .null, .null, .int 0, .int 0, .int 0, .int 0, .null, .null])), (q101, .inl (k102, 3000, .inl (fun _ => 0))), (q107, .inl (k108, 4000, .inl (fun _ => 0)))] H := hP
  have hD : va_D A [(q0, .inr (7, [.ref q101, .int 0, .ref q103, .ref q105, .null, .null, .null, .null, .null, .null, .int 0, .int 0, .int 0, .int 0, .null, .null])), (q101, .inl (k102, 3000, .inl (fun _ => 0))), (q107, .inl (k108, 4000, .inl (fun _ => 0)))] := hD
  have hK : va_K (dC, dI) classes [(k102, .byte), (k108, .int)] s := hK
  refine W.widen (k := 4) (n := 15000) (Nat.le_of_ble_eq_true rfl) (Nat.le_of_ble_eq_true rfl) ?_
  refine va_putF (D := (dC, dI)) (ci := 7) (v := .ref q107) (ty := .array .int) (C := RX7) (T := TX7) (N := 16) hx hb hts (fun w h => mc (in_X7 w h)) tyX7 tyX7_ok nmX7 hown hK hP hD hS 0 rfl rfl 4 (by decide) (hts _ (mc m_25)) (fun _ h9 => h9) rfl hin rfl (by decide +kernel) (by first | rfl | decide) (by first | rfl | decide) (Nat.le_of_ble_eq_true rfl) dX7_init_48 (fun H locs hP hD hS => ?_)
  have hP : va_P (dC, dI) classes [(q0, .inr (7, [.ref q101, .int 0, .ref q103, .ref q105, .ref q107, .null, .null, .null, .null, .null, .int 0, .int 0, .int 0, .int 0, .null, .null])), (q101, .inl (k102, 3000, .inl (fun _ => 0))), (q107, .inl (k108, 4000, .inl (fun _ => 0)))] H := hP
  have hD : va_D A [(q0, .inr (7, [.ref q101, .int 0, .ref q103, .ref q105, .ref q107, .null, .null, .null, .null, .null, .int 0, .int 0, .int 0, .int 0, .null, .null])), (q101, .inl (k102, 3000, .inl (fun _ => 0))), (q107, .inl (k108, 4000, .inl (fun _ => 0)))] := hD
  have hP := hP.sub (ws' := [(q0, .inr (7, [.ref q101, .int 0, .ref q103, .ref q105, .ref q107, .null, .null, .null, .null, .null, .int 0, .int 0, .int 0, .int 0, .null, .null])), (q101, .inl (k102, 3000, .inl (fun _ => 0)))]) [0, 1] rfl
  have hD := hD.sub (ws' := [(q0, .inr (7, [.ref q101, .int 0, .ref q103, .ref q105, .ref q107, .null, .null, .null, .null, .null, .int 0, .int 0, .int 0, .int 0, .null, .null])), (q101, .inl (k102, 3000, .inl (fun _ => 0)))]) [0, 1] (by decide) rfl
  have hK := hK.sub (tys' := [(k102, .byte)]) [0] rfl
  refine lv_aload_n hx hb dX7_init_51 rfl (lv_at hl 0 rfl) ?_
  refine lv_sipush (v := 4000) hx hb dX7_init_52 (by decide) ?_
  refine va_newa (atype := .int) (ty := .int) (N' := 4000) (a0 := (4000, .inl (fun _ => 0))) hx hb (hts _ (mc m_22)) rfl hK hP hD hS hA (fun _ => rfl) (by decide) (by decide) (by decide) (Nat.le_of_ble_eq_true rfl) (Nat.le_of_ble_eq_true rfl) dX7_init_55 (fun q109 k110 H hK hP hD hS => ?_)
  have hP : va_P (dC, dI) classes [(q0, .inr (7, [.ref q101, .int 0, .ref q103, .ref q105, .ref q107, .null, .null, .null, .null, .null, .int 0, .int 0, .int 0, .int 0, .null, .null])), (q101, .inl (k102, 3000, .inl (fun _ => 0))), (q109, .inl (k110, 4000, .inl (fun _ => 0)))] H := hP
  have hD : va_D A [(q0, .inr (7, [.ref q101, .int 0, .ref q103, .ref q105, .ref q107, .null, .null, .null, .null, .null, .int 0, .int 0, .int 0, .int 0, .null, .null])), (q101, .inl (k102, 3000, .inl (fun _ => 0))), (q109, .inl (k110, 4000, .inl (fun _ => 0)))] := hD
  have hK : va_K (dC, dI) classes [(k102, .byte), (k110, .int)] s := hK
  refine W.widen (k := 5) (n := 19000) (Nat.le_of_ble_eq_true rfl) (Nat.le_of_ble_eq_true rfl) ?_
  refine va_putF (D := (dC, dI)) (ci := 7) (v := .ref q109) (ty := .array .int) (C := RX7) (T := TX7) (N := 16) hx hb hts (fun w h => mc (in_X7 w h)) tyX7 tyX7_ok nmX7 hown hK hP hD hS 0 rfl rfl 5 (by decide) (hts _ (mc m_26)) (fun _ h9 => h9) rfl hin rfl (by decide +kernel) (by first | rfl | decide) (by first | rfl | decide) (Nat.le_of_ble_eq_true rfl) dX7_init_57 (fun H locs hP hD hS => ?_)
  have hP : va_P (dC, dI) classes [(q0, .inr (7, [.ref q101, .int 0, .ref q103, .ref q105, .ref q107, .ref q109, .null, .null, .null, .null, .int 0, .int 0, .int 0, .int 0, .null, .null])), (q101, .inl (k102, 3000, .inl (fun _ => 0))), (q109, .inl (k110, 4000, .inl (fun _ => 0)))] H := hP
  have hD : va_D A [(q0, .inr (7, [.ref q101, .int 0, .ref q103, .ref q105, .ref q107, .ref q109, .null, .null, .null, .null, .int 0, .int 0, .int 0, .int 0, .null, .null])), (q101, .inl (k102, 3000, .inl (fun _ => 0))), (q109, .inl (k110, 4000, .inl (fun _ => 0)))] := hD
  have hP := hP.sub (ws' := [(q0, .inr (7, [.ref q101, .int 0, .ref q103, .ref q105, .ref q107, .ref q109, .null, .null, .null, .null, .int 0, .int 0, .int 0, .int 0, .null, .null])), (q101, .inl (k102, 3000, .inl (fun _ => 0)))]) [0, 1] rfl
  have hD := hD.sub (ws' := [(q0, .inr (7, [.ref q101, .int 0, .ref q103, .ref q105, .ref q107, .ref q109, .null, .null, .null, .null, .int 0, .int 0, .int 0, .int 0, .null, .null])), (q101, .inl (k102, 3000, .inl (fun _ => 0)))]) [0, 1] (by decide) rfl
  have hK := hK.sub (tys' := [(k102, .byte)]) [0] rfl
  refine lv_aload_n hx hb dX7_init_60 rfl (lv_at hl 0 rfl) ?_
  refine lv_sipush (v := 4000) hx hb dX7_init_61 (by decide) ?_
  refine va_newa (atype := .int) (ty := .int) (N' := 4000) (a0 := (4000, .inl (fun _ => 0))) hx hb (hts _ (mc m_22)) rfl hK hP hD hS hA (fun _ => rfl) (by decide) (by decide) (by decide) (Nat.le_of_ble_eq_true rfl) (Nat.le_of_ble_eq_true rfl) dX7_init_64 (fun q111 k112 H hK hP hD hS => ?_)
  have hP : va_P (dC, dI) classes [(q0, .inr (7, [.ref q101, .int 0, .ref q103, .ref q105, .ref q107, .ref q109, .null, .null, .null, .null, .int 0, .int 0, .int 0, .int 0, .null, .null])), (q101, .inl (k102, 3000, .inl (fun _ => 0))), (q111, .inl (k112, 4000, .inl (fun _ => 0)))] H := hP
  have hD : va_D A [(q0, .inr (7, [.ref q101, .int 0, .ref q103, .ref q105, .ref q107, .ref q109, .null, .null, .null, .null, .int 0, .int 0, .int 0, .int 0, .null, .null])), (q101, .inl (k102, 3000, .inl (fun _ => 0))), (q111, .inl (k112, 4000, .inl (fun _ => 0)))] := hD
  have hK : va_K (dC, dI) classes [(k102, .byte), (k112, .int)] s := hK
  refine W.widen (k := 6) (n := 23000) (Nat.le_of_ble_eq_true rfl) (Nat.le_of_ble_eq_true rfl) ?_
  refine va_putF (D := (dC, dI)) (ci := 7) (v := .ref q111) (ty := .array .int) (C := RX7) (T := TX7) (N := 16) hx hb hts (fun w h => mc (in_X7 w h)) tyX7 tyX7_ok nmX7 hown hK hP hD hS 0 rfl rfl 6 (by decide) (hts _ (mc m_27)) (fun _ h9 => h9) rfl hin rfl (by decide +kernel) (by first | rfl | decide) (by first | rfl | decide) (Nat.le_of_ble_eq_true rfl) dX7_init_66 (fun H locs hP hD hS => ?_)
  have hP : va_P (dC, dI) classes [(q0, .inr (7, [.ref q101, .int 0, .ref q103, .ref q105, .ref q107, .ref q109, .ref q111, .null, .null, .null, .int 0, .int 0, .int 0, .int 0, .null, .null])), (q101, .inl (k102, 3000, .inl (fun _ => 0))), (q111, .inl (k112, 4000, .inl (fun _ => 0)))] H := hP
  have hD : va_D A [(q0, .inr (7, [.ref q101, .int 0, .ref q103, .ref q105, .ref q107, .ref q109, .ref q111, .null, .null, .null, .int 0, .int 0, .int 0, .int 0, .null, .null])), (q101, .inl (k102, 3000, .inl (fun _ => 0))), (q111, .inl (k112, 4000, .inl (fun _ => 0)))] := hD
  have hP := hP.sub (ws' := [(q0, .inr (7, [.ref q101, .int 0, .ref q103, .ref q105, .ref q107, .ref q109, .ref q111, .null, .null, .null, .int 0, .int 0, .int 0, .int 0, .null, .null])), (q101, .inl (k102, 3000, .inl (fun _ => 0)))]) [0, 1] rfl
  have hD := hD.sub (ws' := [(q0, .inr (7, [.ref q101, .int 0, .ref q103, .ref q105, .ref q107, .ref q109, .ref q111, .null, .null, .null, .int 0, .int 0, .int 0, .int 0, .null, .null])), (q101, .inl (k102, 3000, .inl (fun _ => 0)))]) [0, 1] (by decide) rfl
  have hK := hK.sub (tys' := [(k102, .byte)]) [0] rfl
  refine lv_aload_n hx hb dX7_init_69 rfl (lv_at hl 0 rfl) ?_
  refine lv_sipush (v := 4000) hx hb dX7_init_70 (by decide) ?_
  refine va_newa (atype := .int) (ty := .int) (N' := 4000) (a0 := (4000, .inl (fun _ => 0))) hx hb (hts _ (mc m_22)) rfl hK hP hD hS hA (fun _ => rfl) (by decide) (by decide) (by decide) (Nat.le_of_ble_eq_true rfl) (Nat.le_of_ble_eq_true rfl) dX7_init_73 (fun q113 k114 H hK hP hD hS => ?_)
  have hP : va_P (dC, dI) classes [(q0, .inr (7, [.ref q101, .int 0, .ref q103, .ref q105, .ref q107, .ref q109, .ref q111, .null, .null, .null, .int 0, .int 0, .int 0, .int 0, .null, .null])), (q101, .inl (k102, 3000, .inl (fun _ => 0))), (q113, .inl (k114, 4000, .inl (fun _ => 0)))] H := hP
  have hD : va_D A [(q0, .inr (7, [.ref q101, .int 0, .ref q103, .ref q105, .ref q107, .ref q109, .ref q111, .null, .null, .null, .int 0, .int 0, .int 0, .int 0, .null, .null])), (q101, .inl (k102, 3000, .inl (fun _ => 0))), (q113, .inl (k114, 4000, .inl (fun _ => 0)))] := hD
  have hK : va_K (dC, dI) classes [(k102, .byte), (k114, .int)] s := hK
  refine W.widen (k := 7) (n := 27000) (Nat.le_of_ble_eq_true rfl) (Nat.le_of_ble_eq_true rfl) ?_
  refine va_putF (D := (dC, dI)) (ci := 7) (v := .ref q113) (ty := .array .int) (C := RX7) (T := TX7) (N := 16) hx hb hts (fun w h => mc (in_X7 w h)) tyX7 tyX7_ok nmX7 hown hK hP hD hS 0 rfl rfl 7 (by decide) (hts _ (mc m_28)) (fun _ h9 => h9) rfl hin rfl (by decide +kernel) (by first | rfl | decide) (by first | rfl | decide) (Nat.le_of_ble_eq_true rfl) dX7_init_75 (fun H locs hP hD hS => ?_)
  have hP : va_P (dC, dI) classes [(q0, .inr (7, [.ref q101, .int 0, .ref q103, .ref q105, .ref q107, .ref q109, .ref q111, .ref q113, .null, .null, .int 0, .int 0, .int 0, .int 0, .null, .null])), (q101, .inl (k102, 3000, .inl (fun _ => 0))), (q113, .inl (k114, 4000, .inl (fun _ => 0)))] H := hP
  have hD : va_D A [(q0, .inr (7, [.ref q101, .int 0, .ref q103, .ref q105, .ref q107, .ref q109, .ref q111, .ref q113, .null, .null, .int 0, .int 0, .int 0, .int 0, .null, .null])), (q101, .inl (k102, 3000, .inl (fun _ => 0))), (q113, .inl (k114, 4000, .inl (fun _ => 0)))] := hD
  have hP := hP.sub (ws' := [(q0, .inr (7, [.ref q101, .int 0, .ref q103, .ref q105, .ref q107, .ref q109, .ref q111, .ref q113, .null, .null, .int 0, .int 0, .int 0, .int 0, .null, .null])), (q101, .inl (k102, 3000, .inl (fun _ => 0)))]) [0, 1] rfl
  have hD := hD.sub (ws' := [(q0, .inr (7, [.ref q101, .int 0, .ref q103, .ref q105, .ref q107, .ref q109, .ref q111, .ref q113, .null, .null, .int 0, .int 0, .int 0, .int 0, .null, .null])), (q101, .inl (k102, 3000, .inl (fun _ => 0)))]) [0, 1] (by decide) rfl
  have hK := hK.sub (tys' := [(k102, .byte)]) [0] rfl
  refine lv_aload_n hx hb dX7_init_78 rfl (lv_at hl 0 rfl) ?_
  refine lv_sipush (v := 4000) hx hb dX7_init_79 (by decide) ?_
  refine va_newa (atype := .int) (ty := .int) (N' := 4000) (a0 := (4000, .inl (fun _ => 0))) hx hb (hts _ (mc m_22)) rfl hK hP hD hS hA (fun _ => rfl) (by decide) (by decide) (by decide) (Nat.le_of_ble_eq_true rfl) (Nat.le_of_ble_eq_true rfl) dX7_init_82 (fun q115 k116 H hK hP hD hS => ?_)
  have hP : va_P (dC, dI) classes [(q0, .inr (7, [.ref q101, .int 0, .ref q103, .ref q105, .ref q107, .ref q109, .ref q111, .ref q113, .null, .null, .int 0, .int 0, .int 0, .int 0, .null, .null])), (q101, .inl (k102, 3000, .inl (fun _ => 0))), (q115, .inl (k116, 4000, .inl (fun _ => 0)))] H := hP
  have hD : va_D A [(q0, .inr (7, [.ref q101, .int 0, .ref q103, .ref q105, .ref q107, .ref q109, .ref q111, .ref q113, .null, .null, .int 0, .int 0, .int 0, .int 0, .null, .null])), (q101, .inl (k102, 3000, .inl (fun _ => 0))), (q115, .inl (k116, 4000, .inl (fun _ => 0)))] := hD
  have hK : va_K (dC, dI) classes [(k102, .byte), (k116, .int)] s := hK
  refine W.widen (k := 8) (n := 31000) (Nat.le_of_ble_eq_true rfl) (Nat.le_of_ble_eq_true rfl) ?_
  refine va_putF (D := (dC, dI)) (ci := 7) (v := .ref q115) (ty := .array .int) (C := RX7) (T := TX7) (N := 16) hx hb hts (fun w h => mc (in_X7 w h)) tyX7 tyX7_ok nmX7 hown hK hP hD hS 0 rfl rfl 8 (by decide) (hts _ (mc m_29)) (fun _ h9 => h9) rfl hin rfl (by decide +kernel) (by first | rfl | decide) (by first | rfl | decide) (Nat.le_of_ble_eq_true rfl) dX7_init_84 (fun H locs hP hD hS => ?_)
  have hP : va_P (dC, dI) classes [(q0, .inr (7, [.ref q101, .int 0, .ref q103, .ref q105, .ref q107, .ref q109, .ref q111, .ref q113, .ref q115, .null, .int 0, .int 0, .int 0, .int 0, .null, .null])), (q101, .inl (k102, 3000, .inl (fun _ => 0))), (q115, .inl (k116, 4000, .inl (fun _ => 0)))] H := hP
  have hD : va_D A [(q0, .inr (7, [.ref q101, .int 0, .ref q103, .ref q105, .ref q107, .ref q109, .ref q111, .ref q113, .ref q115, .null, .int 0, .int 0, .int 0, .int 0, .null, .null])), (q101, .inl (k102, 3000, .inl (fun _ => 0))), (q115, .inl (k116, 4000, .inl (fun _ => 0)))] := hD
  have hP := hP.sub (ws' := [(q0, .inr (7, [.ref q101, .int 0, .ref q103, .ref q105, .ref q107, .ref q109, .ref q111, .ref q113, .ref q115, .null, .int 0, .int 0, .int 0, .int 0, .null, .null])), (q101, .inl (k102, 3000, .inl (fun _ => 0)))]) [0, 1] rfl
  have hD := hD.sub (ws' := [(q0, .inr (7, [.ref q101, .int 0, .ref q103, .ref q105, .ref q107, .ref q109, .ref q111, .ref q113, .ref q115, .null, .int 0, .int 0, .int 0, .int 0, .null, .null])), (q101, .inl (k102, 3000, .inl (fun _ => 0)))]) [0, 1] (by decide) rfl
  have hK := hK.sub (tys' := [(k102, .byte)]) [0] rfl
  refine lv_aload_n hx hb dX7_init_87 rfl (lv_at hl 0 rfl) ?_
  refine lv_sipush (v := 4000) hx hb dX7_init_88 (by decide) ?_
  refine va_newa (atype := .int) (ty := .int) (N' := 4000) (a0 := (4000, .inl (fun _ => 0))) hx hb (hts _ (mc m_22)) rfl hK hP hD hS hA (fun _ => rfl) (by decide) (by decide) (by decide) (Nat.le_of_ble_eq_true rfl) (Nat.le_of_ble_eq_true rfl) dX7_init_91 (fun q117 k118 H hK hP hD hS => ?_)
  have hP : va_P (dC, dI) classes [(q0, .inr (7, [.ref q101, .int 0, .ref q103, .ref q105, .ref q107, .ref q109, .ref q111, .ref q113, .ref q115, .null, .int 0, .int 0, .int 0, .int 0, .null, .null])), (q101, .inl (k102, 3000, .inl (fun _ => 0))), (q117, .inl (k118, 4000, .inl (fun _ => 0)))] H := hP
  have hD : va_D A [(q0, .inr (7, [.ref q101, .int 0, .ref q103, .ref q105, .ref q107, .ref q109, .ref q111, .ref q113, .ref q115, .null, .int 0, .int 0, .int 0, .int 0, .null, .null])), (q101, .inl (k102, 3000, .inl (fun _ => 0))), (q117, .inl (k118, 4000, .inl (fun _ => 0)))] := hD
  have hK : va_K (dC, dI) classes [(k102, .byte), (k118, .int)] s := hK
  refine W.widen (k := 9) (n := 35000) (Nat.le_of_ble_eq_true rfl) (Nat.le_of_ble_eq_true rfl) ?_
  refine va_putF (D := (dC, dI)) (ci := 7) (v := .ref q117) (ty := .array .int) (C := RX7) (T := TX7) (N := 16) hx hb hts (fun w h => mc (in_X7 w h)) tyX7 tyX7_ok nmX7 hown hK hP hD hS 0 rfl rfl 9 (by decide) (hts _ (mc m_30)) (fun _ h9 => h9) rfl hin rfl (by decide +kernel) (by first | rfl | decide) (by first | rfl | decide) (Nat.le_of_ble_eq_true rfl) dX7_init_93 (fun H locs hP hD hS => ?_)
  have hP : va_P (dC, dI) classes [(q0, .inr (7, [.ref q101, .int 0, .ref q103, .ref q105, .ref q107, .ref q109, .ref q111, .ref q113, .ref q115, .ref q117, .int 0, .int 0, .int 0, .int 0, .null, .null])), (q101, .inl (k102, 3000, .inl (fun _ => 0))), (q117, .inl (k118, 4000, .inl (fun _ => 0)))] H := hP
  have hD : va_D A [(q0, .inr (7, [.ref q101, .int 0, .ref q103, .ref q105, .ref q107, .ref q109, .ref q111, .ref q113, .ref q115, .ref q117, .int 0, .int 0, .int 0, .int 0, .null, .null])), (q101, .inl (k102, 3000, .inl (fun _ => 0))), (q117, .inl (k118, 4000, .inl (fun _ => 0)))] := hD
  have hP := hP.sub (ws' := [(q0, .inr (7, [.ref q101, .int 0, .ref q103, .ref q105, .ref q107, .ref q109, .ref q111, .ref q113, .ref q115, .ref q117, .int 0, .int 0, .int 0, .int 0, .null, .null])), (q101, .inl (k102, 3000, .inl (fun _ => 0)))]) [0, 1] rfl
  have hD := hD.sub (ws' := [(q0, .inr (7, [.ref q101, .int 0, .ref q103, .ref q105, .ref q107, .ref q109, .ref q111, .ref q113, .ref q115, .ref q117, .int 0, .int 0, .int 0, .int 0, .null, .null])), (q101, .inl (k102, 3000, .inl (fun _ => 0)))]) [0, 1] (by decide) rfl
  have hK := hK.sub (tys' := [(k102, .byte)]) [0] rfl
  refine lv_aload_n hx hb dX7_init_96 rfl (lv_at hl 0 rfl) ?_
  refine lv_iconst (v := 0) hx hb dX7_init_97 (by decide) ?_
  refine va_put (D := (dC, dI)) (ci := 7) (v := .int 0) (ty := .int) (C := RX7) (T := TX7) (N := 16) hx hb hts (fun w h => mc (in_X7 w h)) tyX7 tyX7_ok nmX7 hown hK hP hD hS 0 rfl rfl 10 (by decide) (hts _ (mc m_31)) (fun _ h9 => h9) rfl (by decide +kernel) (by first | rfl | decide) (by first | rfl | decide) (Nat.le_of_ble_eq_true rfl) dX7_init_98 (fun H locs hP hD hS => ?_)
  have hP : va_P (dC, dI) classes [(q0, .inr (7, [.ref q101, .int 0, .ref q103, .ref q105, .ref q107, .ref q109, .ref q111, .ref q113, .ref q115, .ref q117, .int 0, .int 0, .int 0, .int 0, .null, .null])), (q101, .inl (k102, 3000, .inl (fun _ => 0)))] H := hP
  have hD : va_D A [(q0, .inr (7, [.ref q101, .int 0, .ref q103, .ref q105, .ref q107, .ref q109, .ref q111, .ref q113, .ref q115, .ref q117, .int 0, .int 0, .int 0, .int 0, .null, .null])), (q101, .inl (k102, 3000, .inl (fun _ => 0)))] := hD
  refine lv_aload_n hx hb dX7_init_101 rfl (lv_at hl 0 rfl) ?_
  refine lv_iconst (v := (-1)) hx hb dX7_init_102 (by decide) ?_
  refine va_put (D := (dC, dI)) (ci := 7) (v := .int (-1)) (ty := .int) (C := RX7) (T := TX7) (N := 16) hx hb hts (fun w h => mc (in_X7 w h)) tyX7 tyX7_ok nmX7 hown hK hP hD hS 0 rfl rfl 11 (by decide) (hts _ (mc m_32)) (fun _ h9 => h9) rfl (by decide +kernel) (by first | rfl | decide) (by first | rfl | decide) (Nat.le_of_ble_eq_true rfl) dX7_init_103 (fun H locs hP hD hS => ?_)
  have hP : va_P (dC, dI) classes [(q0, .inr (7, [.ref q101, .int 0, .ref q103, .ref q105, .ref q107, .ref q109, .ref q111, .ref q113, .ref q115, .ref q117, .int 0, .int (-1), .int 0, .int 0, .null, .null])), (q101, .inl (k102, 3000, .inl (fun _ => 0)))] H := hP
  have hD : va_D A [(q0, .inr (7, [.ref q101, .int 0, .ref q103, .ref q105, .ref q107, .ref q109, .ref q111, .ref q113, .ref q115, .ref q117, .int 0, .int (-1), .int 0, .int 0, .null, .null])), (q101, .inl (k102, 3000, .inl (fun _ => 0)))] := hD
  refine lv_aload_n hx hb dX7_init_106 rfl (lv_at hl 0 rfl) ?_
  refine lv_iconst (v := 0) hx hb dX7_init_107 (by decide) ?_
  refine va_put (D := (dC, dI)) (ci := 7) (v := .int 0) (ty := .int) (C := RX7) (T := TX7) (N := 16) hx hb hts (fun w h => mc (in_X7 w h)) tyX7 tyX7_ok nmX7 hown hK hP hD hS 0 rfl rfl 12 (by decide) (hts _ (mc m_33)) (fun _ h9 => h9) rfl (by decide +kernel) (by first | rfl | decide) (by first | rfl | decide) (Nat.le_of_ble_eq_true rfl) dX7_init_108 (fun H locs hP hD hS => ?_)
  have hP : va_P (dC, dI) classes [(q0, .inr (7, [.ref q101, .int 0, .ref q103, .ref q105, .ref q107, .ref q109, .ref q111, .ref q113, .ref q115, .ref q117, .int 0, .int (-1), .int 0, .int 0, .null, .null])), (q101, .inl (k102, 3000, .inl (fun _ => 0)))] H := hP
  have hD : va_D A [(q0, .inr (7, [.ref q101, .int 0, .ref q103, .ref q105, .ref q107, .ref q109, .ref q111, .ref q113, .ref q115, .ref q117, .int 0, .int (-1), .int 0, .int 0, .null, .null])), (q101, .inl (k102, 3000, .inl (fun _ => 0)))] := hD
  refine lv_aload_n hx hb dX7_init_111 rfl (lv_at hl 0 rfl) ?_
  refine lv_iconst (v := (-1)) hx hb dX7_init_112 (by decide) ?_
  refine va_put (D := (dC, dI)) (ci := 7) (v := .int (-1)) (ty := .int) (C := RX7) (T := TX7) (N := 16) hx hb hts (fun w h => mc (in_X7 w h)) tyX7 tyX7_ok nmX7 hown hK hP hD hS 0 rfl rfl 13 (by decide) (hts _ (mc m_34)) (fun _ h9 => h9) rfl (by decide +kernel) (by first | rfl | decide) (by first | rfl | decide) (Nat.le_of_ble_eq_true rfl) dX7_init_113 (fun H locs hP hD hS => ?_)
  have hP : va_P (dC, dI) classes [(q0, .inr (7, [.ref q101, .int 0, .ref q103, .ref q105, .ref q107, .ref q109, .ref q111, .ref q113, .ref q115, .ref q117, .int 0, .int (-1), .int 0, .int (-1), .null, .null])), (q101, .inl (k102, 3000, .inl (fun _ => 0)))] H := hP
  have hD : va_D A [(q0, .inr (7, [.ref q101, .int 0, .ref q103, .ref q105, .ref q107, .ref q109, .ref q111, .ref q113, .ref q115, .ref q117, .int 0, .int (-1), .int 0, .int (-1), .null, .null])), (q101, .inl (k102, 3000, .inl (fun _ => 0)))] := hD
  refine lv_aload_n hx hb dX7_init_116 rfl (lv_at hl 0 rfl) ?_
  refine va_new (ci := 10) (fs := [.null, .null, .null, .null, .null, .null, .null, .int 0, .int 0]) (C := RX10) (T := TX10) (N := 9) hx hb hts (fun w h => mc (in_X10 w h)) tyX10 tyX10_ok hown (hts _ (mc m_35)) (hts _ (mc m_36)) (hts _ (mc m_37)) hK hP hD hS hA rfl (by decide) (Nat.le_of_ble_eq_true rfl) (Nat.le_of_ble_eq_true rfl) dX7_init_117 (fun q119 H hP hD hS => ?_)
  have hP : va_P (dC, dI) classes [(q0, .inr (7, [.ref q101, .int 0, .ref q103, .ref q105, .ref q107, .ref q109, .ref q111, .ref q113, .ref q115, .ref q117, .int 0, .int (-1), .int 0, .int (-1), .null, .null])), (q101, .inl (k102, 3000, .inl (fun _ => 0))), (q119, .inr (10, [.null, .null, .null, .null, .null, .null, .null, .int 0, .int 0]))] H := hP
  have hD : va_D A [(q0, .inr (7, [.ref q101, .int 0, .ref q103, .ref q105, .ref q107, .ref q109, .ref q111, .ref q113, .ref q115, .ref q117, .int 0, .int (-1), .int 0, .int (-1), .null, .null])), (q101, .inl (k102, 3000, .inl (fun _ => 0))), (q119, .inr (10, [.null, .null, .null, .null, .null, .null, .null, .int 0, .int 0]))] := hD
  refine W.widen (k := 10) (n := 35009) (Nat.le_of_ble_eq_true rfl) (Nat.le_of_ble_eq_true rfl) ?_
  refine lv_dup hx hb dX7_init_120 rfl ?_
  have hPc := hP.sub (ws' := [(q119, .inr (10, [.null, .null, .null, .null, .null, .null, .null, .int 0, .int 0]))]) [2] rfl
  have hDc := hD.sub (ws' := [(q119, .inr (10, [.null, .null, .null, .null, .null, .null, .null, .int 0, .int 0]))]) [2] (by decide) rfl
  have hKc := hK.sub (tys' := []) [] rfl
  have hFc := va_free (wc := [(q119, .inr (10, [.null, .null, .null, .null, .null, .null, .null, .int 0, .int 0]))]) hD hS hA [2] rfl
  refine va_callv (va_runI (As := []) (rest := [.ref q119, .ref q0]) ⟨hx, hb, hml, hown, hts⟩ (c_X10_init_0 l dC dI q119 H.size) (cwI 0 hts (gI m_48) rfl rfl rfl (hts _ (mc m_37)) (hts _ (mc m_49)) (hts _ (mc m_50)) rfl (by decide +kernel) ⟨Nat.le_of_ble_eq_true rfl, Nat.le_of_ble_eq_true rfl⟩) ⟨q_bl, q_pre hPc hKc hDc hE hS hFc⟩ rfl rfl hl.1 rfl (lv_room (Nat.le_of_ble_eq_true rfl)) dX7_init_121 ⟨Nat.le_of_ble_eq_true rfl, Nat.le_of_ble_eq_true rfl⟩) hS (fun q _ h => hFc q h) hFc (fun u t H1 locs ht hvm hw hB hz1 hk1 hS => ?_)
  obtain ⟨q120, q121, q122, q123, q124, q125, q126, k127, k128, k129, k130, k131, k132, hP1, hK1, hD1⟩ := hB
  rw [ht] at hP1
  have hK1 := va_K.moved hvm.symm hK1
  obtain ⟨hP, hD⟩ := va_join (wr := [(q0, .inr (7, [.ref q101, .int 0, .ref q103, .ref q105, .ref q107, .ref q109, .ref q111, .ref q113, .ref q115, .ref q117, .int 0, .int (-1), .int 0, .int (-1), .null, .null])), (q101, .inl (k102, 3000, .inl (fun _ => 0)))]) (w1 := [(q119, .inr (10, [.ref q120, .ref q121, .ref q122, .ref q123, .ref q124, .ref q125, .ref q126, .int 0, .int 0])), (q120, .inl (k127, 1600, .inl (fun _ => 0))), (q121, .inl (k128, 1600, .inl (fun _ => 0))), (q122, .inl (k129, 1600, .inl (fun _ => 0))), (q123, .inl (k130, 1600, .inl (fun _ => 0))), (q124, .inl (k131, 1600, .inl (fun _ => 0))), (q125, .inl (k132, 1600, .inl (fun _ => 0)))]) hP hD [2] [0, 1] rfl rfl (by decide) (by decide) hk1 hFc hP1 hD1
  have hK := (hK.sub (tys' := [(k102, .byte)]) [0] rfl).app hK1
  generalize H1 = H at hP hS ⊢
  have hP : va_P (dC, dI) classes [(q0, .inr (7, [.ref q101, .int 0, .ref q103, .ref q105, .ref q107, .ref q109, .ref q111, .ref q113, .ref q115, .ref q117, .int 0, .int (-1), .int 0, .int (-1), .null, .null])), (q101, .inl (k102, 3000, .inl (fun _ => 0))), (q119, .inr (10, [.ref q120, .ref q121, .ref q122, .ref q123, .ref q124, .ref q125, .ref q126, .int 0, .int 0])), (q120, .inl (k127, 1600, .inl (fun _ => 0))), (q121, .inl (k128, 1600, .inl (fun _ => 0))), (q122, .inl (k129, 1600, .inl (fun _ => 0))), (q123, .inl (k130, 1600, .inl (fun _ => 0))), (q124, .inl (k131, 1600, .inl (fun _ => 0))), (q125, .inl (k132, 1600, .inl (fun _ => 0)))] H := hP
  have hD : va_D A [(q0, .inr (7, [.ref q101, .int 0, .ref q103, .ref q105, .ref q107, .ref q109, .ref q111, .ref q113, .ref q115, .ref q117, .int 0, .int (-1), .int 0, .int (-1), .null, .null])), (q101, .inl (k102, 3000, .inl (fun _ => 0))), (q119, .inr (10, [.ref q120, .ref q121, .ref q122, .ref q123, .ref q124, .ref q125, .ref q126, .int 0, .int 0])), (q120, .inl (k127, 1600, .inl (fun _ => 0))), (q121, .inl (k128, 1600, .inl (fun _ => 0))), (q122, .inl (k129, 1600, .inl (fun _ => 0))), (q123, .inl (k130, 1600, .inl (fun _ => 0))), (q124, .inl (k131, 1600, .inl (fun _ => 0))), (q125, .inl (k132, 1600, .inl (fun _ => 0)))] := hD
  have hK : va_K (dC, dI) classes [(k102, .byte), (k127, .int), (k128, .int), (k129, .int), (k130, .int), (k131, .int), (k132, .int)] s := hK
  refine W.widen (k := 17) (n := 45609) (Nat.le_of_ble_eq_true rfl) (Nat.le_of_ble_eq_true rfl) ?_
  refine va_putF (D := (dC, dI)) (ci := 7) (v := .ref q119) (ty := .object "ThreeMills$Types") (C := RX7) (T := TX7) (N := 16) hx hb hts (fun w h => mc (in_X7 w h)) tyX7 tyX7_ok nmX7 hown hK hP hD hS 0 rfl rfl 14 (by decide) (hts _ (mc m_51)) (fun _ h9 => h9) rfl hin rfl (by decide +kernel) (by first | rfl | decide) (by first | rfl | decide) (Nat.le_of_ble_eq_true rfl) dX7_init_124 (fun H locs hP hD hS => ?_)
  have hP : va_P (dC, dI) classes [(q0, .inr (7, [.ref q101, .int 0, .ref q103, .ref q105, .ref q107, .ref q109, .ref q111, .ref q113, .ref q115, .ref q117, .int 0, .int (-1), .int 0, .int (-1), .ref q119, .null])), (q101, .inl (k102, 3000, .inl (fun _ => 0))), (q119, .inr (10, [.ref q120, .ref q121, .ref q122, .ref q123, .ref q124, .ref q125, .ref q126, .int 0, .int 0])), (q120, .inl (k127, 1600, .inl (fun _ => 0))), (q121, .inl (k128, 1600, .inl (fun _ => 0))), (q122, .inl (k129, 1600, .inl (fun _ => 0))), (q123, .inl (k130, 1600, .inl (fun _ => 0))), (q124, .inl (k131, 1600, .inl (fun _ => 0))), (q125, .inl (k132, 1600, .inl (fun _ => 0)))] H := hP
  have hD : va_D A [(q0, .inr (7, [.ref q101, .int 0, .ref q103, .ref q105, .ref q107, .ref q109, .ref q111, .ref q113, .ref q115, .ref q117, .int 0, .int (-1), .int 0, .int (-1), .ref q119, .null])), (q101, .inl (k102, 3000, .inl (fun _ => 0))), (q119, .inr (10, [.ref q120, .ref q121, .ref q122, .ref q123, .ref q124, .ref q125, .ref q126, .int 0, .int 0])), (q120, .inl (k127, 1600, .inl (fun _ => 0))), (q121, .inl (k128, 1600, .inl (fun _ => 0))), (q122, .inl (k129, 1600, .inl (fun _ => 0))), (q123, .inl (k130, 1600, .inl (fun _ => 0))), (q124, .inl (k131, 1600, .inl (fun _ => 0))), (q125, .inl (k132, 1600, .inl (fun _ => 0)))] := hD
  refine lv_aload_n hx hb dX7_init_127 rfl (lv_at hl 0 rfl) ?_
  refine va_new (ci := 0) (fs := [.null, .null, .null, .null, .null, .int 0, .null, .null, .null, .null, .null, .null, .null, .null, .int 0, .null, .null, .null, .null]) (C := RX0) (T := TX0) (N := 19) hx hb hts (fun w h => mc (in_X0 w h)) tyX0 tyX0_ok hown (hts _ (mc m_52)) (hts _ (mc m_53)) (hts _ (mc m_54)) hK hP hD hS hA rfl (by decide) (Nat.le_of_ble_eq_true rfl) (Nat.le_of_ble_eq_true rfl) dX7_init_128 (fun q133 H hP hD hS => ?_)
  have hP : va_P (dC, dI) classes [(q0, .inr (7, [.ref q101, .int 0, .ref q103, .ref q105, .ref q107, .ref q109, .ref q111, .ref q113, .ref q115, .ref q117, .int 0, .int (-1), .int 0, .int (-1), .ref q119, .null])), (q101, .inl (k102, 3000, .inl (fun _ => 0))), (q119, .inr (10, [.ref q120, .ref q121, .ref q122, .ref q123, .ref q124, .ref q125, .ref q126, .int 0, .int 0])), (q120, .inl (k127, 1600, .inl (fun _ => 0))), (q121, .inl (k128, 1600, .inl (fun _ => 0))), (q122, .inl (k129, 1600, .inl (fun _ => 0))), (q123, .inl (k130, 1600, .inl (fun _ => 0))), (q124, .inl (k131, 1600, .inl (fun _ => 0))), (q125, .inl (k132, 1600, .inl (fun _ => 0))), (q133, .inr (0, [.null, .null, .null, .null, .null, .int 0, .null, .null, .null, .null, .null, .null, .null, .null, .int 0, .null, .null, .null, .null]))] H := hP
  have hD : va_D A [(q0, .inr (7, [.ref q101, .int 0, .ref q103, .ref q105, .ref q107, .ref q109, .ref q111, .ref q113, .ref q115, .ref q117, .int 0, .int (-1), .int 0, .int (-1), .ref q119, .null])), (q101, .inl (k102, 3000, .inl (fun _ => 0))), (q119, .inr (10, [.ref q120, .ref q121, .ref q122, .ref q123, .ref q124, .ref q125, .ref q126, .int 0, .int 0])), (q120, .inl (k127, 1600, .inl (fun _ => 0))), (q121, .inl (k128, 1600, .inl (fun _ => 0))), (q122, .inl (k129, 1600, .inl (fun _ => 0))), (q123, .inl (k130, 1600, .inl (fun _ => 0))), (q124, .inl (k131, 1600, .inl (fun _ => 0))), (q125, .inl (k132, 1600, .inl (fun _ => 0))), (q133, .inr (0, [.null, .null, .null, .null, .null, .int 0, .null, .null, .null, .null, .null, .null, .null, .null, .int 0, .null, .null, .null, .null]))] := hD
  refine W.widen (k := 18) (n := 45628) (Nat.le_of_ble_eq_true rfl) (Nat.le_of_ble_eq_true rfl) ?_
  refine lv_dup hx hb dX7_init_131 rfl ?_
  have hPc := hP.sub (ws' := [(q133, .inr (0, [.null, .null, .null, .null, .null, .int 0, .null, .null, .null, .null, .null, .null, .null, .null, .int 0, .null, .null, .null, .null]))]) [9] rfl
  have hDc := hD.sub (ws' := [(q133, .inr (0, [.null, .null, .null, .null, .null, .int 0, .null, .null, .null, .null, .null, .null, .null, .null, .int 0, .null, .null, .null, .null]))]) [9] (by decide) rfl
  have hKc := hK.sub (tys' := []) [] rfl
  have hFc := va_free (wc := [(q133, .inr (0, [.null, .null, .null, .null, .null, .int 0, .null, .null, .null, .null, .null, .null, .null, .null, .int 0, .null, .null, .null, .null]))]) hD hS hA [9] rfl
  refine va_callv (va_runI (As := []) (rest := [.ref q133, .ref q0]) ⟨hx, hb, hml, hown, hts⟩ (c_X0_init_0 l dC dI q133 H.size) (cwI 0 hts (gI m_75) rfl rfl rfl (hts _ (mc m_54)) (hts _ (mc m_76)) (hts _ (mc m_77)) rfl (by decide +kernel) ⟨Nat.le_of_ble_eq_true rfl, Nat.le_of_ble_eq_true rfl⟩) ⟨q_bl, q_pre hPc hKc hDc hE hS hFc⟩ rfl rfl hl.1 rfl (lv_room (Nat.le_of_ble_eq_true rfl)) dX7_init_132 ⟨Nat.le_of_ble_eq_true rfl, Nat.le_of_ble_eq_true rfl⟩) hS (fun q _ h => hFc q h) hFc (fun u t H1 locs ht hvm hw hB hz1 hk1 hS => ?_)
  obtain ⟨q134, q135, q136, q137, q138, q139, q140, q141, q142, q143, q144, q145, q146, q147, q148, q149, q150, hP1, hK1, hD1⟩ := hB
  rw [ht] at hP1
  have hK1 := va_K.moved hvm.symm hK1
  obtain ⟨hP, hD⟩ := va_join (wr := [(q0, .inr (7, [.ref q101, .int 0, .ref q103, .ref q105, .ref q107, .ref q109, .ref q111, .ref q113, .ref q115, .ref q117, .int 0, .int (-1), .int 0, .int (-1), .ref q119, .null])), (q101, .inl (k102, 3000, .inl (fun _ => 0))), (q119, .inr (10, [.ref q120, .ref q121, .ref q122, .ref q123, .ref q124, .ref q125, .ref q126, .int 0, .int 0])), (q120, .inl (k127, 1600, .inl (fun _ => 0))), (q121, .inl (k128, 1600, .inl (fun _ => 0))), (q122, .inl (k129, 1600, .inl (fun _ => 0))), (q123, .inl (k130, 1600, .inl (fun _ => 0))), (q124, .inl (k131, 1600, .inl (fun _ => 0))), (q125, .inl (k132, 1600, .inl (fun _ => 0)))]) (w1 := [(q133, .inr (0, [.ref q134, .ref q135, .ref q136, .ref q137, .ref q138, .int 0, .ref q139, .ref q140, .ref q141, .ref q142, .ref q143, .ref q144, .ref q145, .ref q146, .int 0, .ref q147, .ref q148, .ref q149, .ref q150]))]) hP hD [9] [0, 1, 2, 3, 4, 5, 6, 7, 8] rfl rfl (by decide) (by decide) hk1 hFc hP1 hD1
  have hK := (hK.sub (tys' := [(k102, .byte), (k127, .int), (k128, .int), (k129, .int), (k130, .int), (k131, .int), (k132, .int)]) [0, 1, 2, 3, 4, 5, 6] rfl).app hK1
  generalize H1 = H at hP hS ⊢
  have hP : va_P (dC, dI) classes [(q0, .inr (7, [.ref q101, .int 0, .ref q103, .ref q105, .ref q107, .ref q109, .ref q111, .ref q113, .ref q115, .ref q117, .int 0, .int (-1), .int 0, .int (-1), .ref q119, .null])), (q101, .inl (k102, 3000, .inl (fun _ => 0))), (q119, .inr (10, [.ref q120, .ref q121, .ref q122, .ref q123, .ref q124, .ref q125, .ref q126, .int 0, .int 0])), (q120, .inl (k127, 1600, .inl (fun _ => 0))), (q121, .inl (k128, 1600, .inl (fun _ => 0))), (q122, .inl (k129, 1600, .inl (fun _ => 0))), (q123, .inl (k130, 1600, .inl (fun _ => 0))), (q124, .inl (k131, 1600, .inl (fun _ => 0))), (q125, .inl (k132, 1600, .inl (fun _ => 0))), (q133, .inr (0, [.ref q134, .ref q135, .ref q136, .ref q137, .ref q138, .int 0, .ref q139, .ref q140, .ref q141, .ref q142, .ref q143, .ref q144, .ref q145, .ref q146, .int 0, .ref q147, .ref q148, .ref q149, .ref q150]))] H := hP
  have hD : va_D A [(q0, .inr (7, [.ref q101, .int 0, .ref q103, .ref q105, .ref q107, .ref q109, .ref q111, .ref q113, .ref q115, .ref q117, .int 0, .int (-1), .int 0, .int (-1), .ref q119, .null])), (q101, .inl (k102, 3000, .inl (fun _ => 0))), (q119, .inr (10, [.ref q120, .ref q121, .ref q122, .ref q123, .ref q124, .ref q125, .ref q126, .int 0, .int 0])), (q120, .inl (k127, 1600, .inl (fun _ => 0))), (q121, .inl (k128, 1600, .inl (fun _ => 0))), (q122, .inl (k129, 1600, .inl (fun _ => 0))), (q123, .inl (k130, 1600, .inl (fun _ => 0))), (q124, .inl (k131, 1600, .inl (fun _ => 0))), (q125, .inl (k132, 1600, .inl (fun _ => 0))), (q133, .inr (0, [.ref q134, .ref q135, .ref q136, .ref q137, .ref q138, .int 0, .ref q139, .ref q140, .ref q141, .ref q142, .ref q143, .ref q144, .ref q145, .ref q146, .int 0, .ref q147, .ref q148, .ref q149, .ref q150]))] := hD
  have hK : va_K (dC, dI) classes [(k102, .byte), (k127, .int), (k128, .int), (k129, .int), (k130, .int), (k131, .int), (k132, .int)] s := hK
  refine W.widen (k := 35) (n := 54528) (Nat.le_of_ble_eq_true rfl) (Nat.le_of_ble_eq_true rfl) ?_
  refine va_putF (D := (dC, dI)) (ci := 7) (v := .ref q133) (ty := .object "ThreeMills$Bindings") (C := RX7) (T := TX7) (N := 16) hx hb hts (fun w h => mc (in_X7 w h)) tyX7 tyX7_ok nmX7 hown hK hP hD hS 0 rfl rfl 15 (by decide) (hts _ (mc m_78)) (fun _ h9 => h9) rfl hin rfl (by decide +kernel) (by first | rfl | decide) (by first | rfl | decide) (Nat.le_of_ble_eq_true rfl) dX7_init_135 (fun H locs hP hD hS => ?_)
  have hP : va_P (dC, dI) classes [(q0, .inr (7, [.ref q101, .int 0, .ref q103, .ref q105, .ref q107, .ref q109, .ref q111, .ref q113, .ref q115, .ref q117, .int 0, .int (-1), .int 0, .int (-1), .ref q119, .ref q133])), (q101, .inl (k102, 3000, .inl (fun _ => 0))), (q119, .inr (10, [.ref q120, .ref q121, .ref q122, .ref q123, .ref q124, .ref q125, .ref q126, .int 0, .int 0])), (q120, .inl (k127, 1600, .inl (fun _ => 0))), (q121, .inl (k128, 1600, .inl (fun _ => 0))), (q122, .inl (k129, 1600, .inl (fun _ => 0))), (q123, .inl (k130, 1600, .inl (fun _ => 0))), (q124, .inl (k131, 1600, .inl (fun _ => 0))), (q125, .inl (k132, 1600, .inl (fun _ => 0))), (q133, .inr (0, [.ref q134, .ref q135, .ref q136, .ref q137, .ref q138, .int 0, .ref q139, .ref q140, .ref q141, .ref q142, .ref q143, .ref q144, .ref q145, .ref q146, .int 0, .ref q147, .ref q148, .ref q149, .ref q150]))] H := hP
  have hD : va_D A [(q0, .inr (7, [.ref q101, .int 0, .ref q103, .ref q105, .ref q107, .ref q109, .ref q111, .ref q113, .ref q115, .ref q117, .int 0, .int (-1), .int 0, .int (-1), .ref q119, .ref q133])), (q101, .inl (k102, 3000, .inl (fun _ => 0))), (q119, .inr (10, [.ref q120, .ref q121, .ref q122, .ref q123, .ref q124, .ref q125, .ref q126, .int 0, .int 0])), (q120, .inl (k127, 1600, .inl (fun _ => 0))), (q121, .inl (k128, 1600, .inl (fun _ => 0))), (q122, .inl (k129, 1600, .inl (fun _ => 0))), (q123, .inl (k130, 1600, .inl (fun _ => 0))), (q124, .inl (k131, 1600, .inl (fun _ => 0))), (q125, .inl (k132, 1600, .inl (fun _ => 0))), (q133, .inr (0, [.ref q134, .ref q135, .ref q136, .ref q137, .ref q138, .int 0, .ref q139, .ref q140, .ref q141, .ref q142, .ref q143, .ref q144, .ref q145, .ref q146, .int 0, .ref q147, .ref q148, .ref q149, .ref q150]))] := hD
  exact W.vret hx hb hr (fun t ht hW => ⟨⟨(), rfl, trivial, q101, q103, q105, q107, q109, q111, q113, q115, q117, q119, q133, k102, q120, q121, q122, q123, q124, q125, q126, k127, k128, k129, k130, k131, k132, q134, q135, q136, q137, q138, q139, q140, q141, q142, q143, q144, q145, q146, q147, q148, q149, q150, by rw [ht]; exact hP, va_K.moved hW.alike hK, hD⟩, hS.F ht⟩) hS.2.2 dX7_init_138
set_option maxHeartbeats 4000000 in
set_option maxRecDepth 100000 in
theorem c_X7_bindings_0 (l : Launch) (dC : Nat → ClassId) (dI : Nat → Nat → Nat) (q0 : Nat) (q1 : Nat) (q2 : Nat) (q3 : Nat) (q4 : Nat) (q5 : Nat) (q6 : Nat) (q7 : Nat) (q8 : Nat) (q9 : Nat) (q10 : Nat) (q11 : Nat) (sz : Nat) : Met l yX7_bindings (.code yX7_bindings cX7_bindings 1 (some (.object "ThreeMills$Bindings")) :: bigW) { frames := 0, cells := 0, slots := 0, locals := 0 } (va_Pc [.ref q0] (q_In dC dI [(q0, .inr (7, [.ref q1, .int 0, .ref q2, .ref q3, .ref q4, .ref q5, .ref q6, .ref q7, .ref q8, .ref q9, .int 0, .int (-1), .int 0, .int (-1), .ref q10, .ref q11]))] [] sz)) (va_Qr (fun _ : Unit => True) (fun _ a9 t => a9 = q11 ∧ va_P (dC, dI) classes [(q0, .inr (7, [.ref q1, .int 0, .ref q2, .ref q3, .ref q4, .ref q5, .ref q6, .ref q7, .ref q8, .ref q9, .int 0, .int (-1), .int 0, .int (-1), .ref q10, .ref q11]))] t.heap ∧ va_K (dC, dI) classes [] t ∧ va_D (va_A [(q0, .inr (7, [.ref q1, .int 0, .ref q2, .ref q3, .ref q4, .ref q5, .ref q6, .ref q7, .ref q8, .ref q9, .int 0, .int (-1), .int 0, .int (-1), .ref q10, .ref q11]))] sz) [(q0, .inr (7, [.ref q1, .int 0, .ref q2, .ref q3, .ref q4, .ref q5, .ref q6, .ref q7, .ref q8, .ref q9, .int 0, .int (-1), .int 0, .int (-1), .ref q10, .ref q11]))]) (va_A [(q0, .inr (7, [.ref q1, .int 0, .ref q2, .ref q3, .ref q4, .ref q5, .ref q6, .ref q7, .ref q8, .ref q9, .int 0, .int (-1), .int 0, .int (-1), .ref q10, .ref q11]))] sz)) 0 0 (va_A [(q0, .inr (7, [.ref q1, .int 0, .ref q2, .ref q3, .ref q4, .ref q5, .ref q6, .ref q7, .ref q8, .ref q9, .int 0, .int (-1), .int 0, .int (-1), .ref q10, .ref q11]))] sz) := by
  refine Met.ofW (cc := cX7_bindings) (maxL := 1) (ret := (some (.object "ThreeMills$Bindings"))) (by decide) rfl ?_
  intro p e s m args below meth c s₁ B hml hv
  obtain ⟨rfl, hsz, hP, hK, hD0, hE⟩ := hv
  have hx := B.exec
  have hb := B.bytes
  have hr := B.returns
  have hts := atoms_spec (ws := .code yX7_bindings cX7_bindings 1 (some (.object "ThreeMills$Bindings")) :: bigW) B.pre
  have hown : s.vm.findClass RX7 = some m.cls := findClass_of_methodNamed B.named
  have hlocks := B.notSynchronized
  subst hsz
  have hD := hD0.self (sz := s.heap.size)
  generalize hAe : va_A [(q0, .inr (7, [.ref q1, .int 0, .ref q2, .ref q3, .ref q4, .ref q5, .ref q6, .ref q7, .ref q8, .ref q9, .int 0, .int (-1), .int 0, .int (-1), .ref q10, .ref q11]))] s.heap.size = A at hD hE ⊢
  have hN : q_N s := hE.2.2.2.1
  have hA : ∀ q : Nat, s.heap.size ≤ q → A q := fun q h => by rw [← hAe]; exact Or.inr h
  have hS : va_S A s.heap s.heap [] := va_S.rf
  have hP : va_P (dC, dI) classes [(q0, .inr (7, [.ref q1, .int 0, .ref q2, .ref q3, .ref q4, .ref q5, .ref q6, .ref q7, .ref q8, .ref q9, .int 0, .int (-1), .int 0, .int (-1), .ref q10, .ref q11]))] s.heap := hP
  have hl := lv_entry ([.ref q0]) (n := 1) (Nat.le_of_ble_eq_true rfl)
  rw [lg_entry_eq]
  generalize (lg_sl ([.ref q0]) ++ List.replicate (1 - (lg_sl ([.ref q0])).length) Slot.unset).toArray = ls at hl ⊢
  have hl : lv_has ls 1 [(0, .ref q0)] := hl
  refine lv_aload_n hx hb dX7_bindings_0 rfl (lv_at hl 0 rfl) ?_
  refine va_get (D := (dC, dI)) (ci := 7) (v := .ref q11) (C := RX7) (T := TX7) (N := 16) hx hb hts (fun w h => mc (in_X7 w h)) hown hK hP 0 rfl rfl 15 (by decide) (hts _ (mc m_78)) (fun _ h9 => h9) rfl dX7_bindings_1 ?_
  exact W.aret (v := .ref q11) hx hb hr (by first | exact Or.inl ⟨_, rfl⟩ | exact Or.inr ⟨_, rfl⟩) (Or.inr ⟨_, rfl⟩) (fun t ht hW => ⟨⟨(), q11, rfl, trivial, rfl, by rw [ht]; exact hP, va_K.moved hW.alike hK, hD⟩, hS.F ht⟩) hS.2.2 dX7_bindings_4
set_option maxHeartbeats 4000000 in
set_option maxRecDepth 100000 in
theorem c_X8_init_0 (l : Launch) (dC : Nat → ClassId) (dI : Nat → Nat → Nat) (q0 : Nat) (q1 : Nat) (sz : Nat) : Met l yX8_init (.code yX8_init cX8_init 2 none :: bigW) { frames := 1, cells := 3, slots := 9003, locals := 20 } (va_Pc [.ref q0, .ref q1] (q_In dC dI [(q0, .inr (8, [.null, .null, .null, .null, .int 0, .int 0, .int 0, .int 0, .int 0]))] [] sz)) (va_Qv (fun _ : Unit => True) (fun _ t => ∃ (q101 : Nat) (q103 : Nat) (q105 : Nat) (k102 : ClassId) (k104 : ClassId) (k106 : ClassId), va_P (dC, dI) classes [(q0, .inr (8, [.ref q1, .ref q101, .ref q103, .ref q105, .int 0, .int 0, .int 0, .int 0, .int 0])), (q101, .inl (k102, 3001, .inl (fun _ => 0))), (q103, .inl (k104, 3001, .inl (fun _ => 0))), (q105, .inl (k106, 3001, .inl (fun _ => 0)))] t.heap ∧ va_K (dC, dI) classes [(k102, .int), (k104, .int), (k106, .int)] t ∧ va_D (va_A [(q0, .inr (8, [.null, .null, .null, .null, .int 0, .int 0, .int 0, .int 0, .int 0]))] sz) [(q0, .inr (8, [.ref q1, .ref q101, .ref q103, .ref q105, .int 0, .int 0, .int 0, .int 0, .int 0])), (q101, .inl (k102, 3001, .inl (fun _ => 0))), (q103, .inl (k104, 3001, .inl (fun _ => 0))), (q105, .inl (k106, 3001, .inl (fun _ => 0)))]) (va_A [(q0, .inr (8, [.null, .null, .null, .null, .int 0, .int 0, .int 0, .int 0, .int 0]))] sz)) 3 9003 (va_A [(q0, .inr (8, [.null, .null, .null, .null, .int 0, .int 0, .int 0, .int 0, .int 0]))] sz) := by
  refine Met.ofW (cc := cX8_init) (maxL := 2) (ret := none) (by decide) rfl ?_
  intro p e s m args below meth c s₁ B hml hv
  obtain ⟨rfl, hsz, hP, hK, hD0, hE⟩ := hv
  have hx := B.exec
  have hb := B.bytes
  have hr := B.returns
  have hts := atoms_spec (ws := .code yX8_init cX8_init 2 none :: bigW) B.pre
  have hown : s.vm.findClass RX8 = some m.cls := findClass_of_methodNamed B.named
  have hlocks := B.notSynchronized
  have hin : meth.name = "<init>" := (name_of_methodNamed B.named B.method).1
  subst hsz
  have hD := hD0.self (sz := s.heap.size)
  generalize hAe : va_A [(q0, .inr (8, [.null, .null, .null, .null, .int 0, .int 0, .int 0, .int 0, .int 0]))] s.heap.size = A at hD hE ⊢
  have hN : q_N s := hE.2.2.2.1
  have hA : ∀ q : Nat, s.heap.size ≤ q → A q := fun q h => by rw [← hAe]; exact Or.inr h
  have hS : va_S A s.heap s.heap [] := va_S.rf
  have hP : va_P (dC, dI) classes [(q0, .inr (8, [.null, .null, .null, .null, .int 0, .int 0, .int 0, .int 0, .int 0]))] s.heap := hP
  have hl := lv_entry ([.ref q0, .ref q1]) (n := 2) (Nat.le_of_ble_eq_true rfl)
  rw [lg_entry_eq]
  generalize (lg_sl ([.ref q0, .ref q1]) ++ List.replicate (2 - (lg_sl ([.ref q0, .ref q1])).length) Slot.unset).toArray = ls at hl ⊢
  have hl : lv_has ls 2 [(0, .ref q0), (1, .ref q1)] := hl
  refine lv_aload_n hx hb dX8_init_0 rfl (lv_at hl 0 rfl) ?_
  refine W.objInit hx hb hown (hts _ (mc m_100)) (hts _ (mc m_1)) (hts _ (mc m_2)) rfl (by rw [hml]; exact hl.1) rfl dX8_init_1 (Nat.le_of_ble_eq_true rfl) (Nat.le_of_ble_eq_true rfl) ?_
  refine W.eq (g2 := F0 m 4 ls []) rfl ?_
  refine lv_aload_n hx hb dX8_init_4 rfl (lv_at hl 0 rfl) ?_
  refine lv_aload_n hx hb dX8_init_5 rfl (lv_at hl 1 rfl) ?_
  refine va_put (D := (dC, dI)) (ci := 8) (v := .ref q1) (ty := .object "ThreeMills$Program") (C := RX8) (T := TX8) (N := 9) hx hb hts (fun w h => mc (in_X8 w h)) tyX8 tyX8_ok nmX8 hown hK hP hD hS 0 rfl rfl 0 (by decide) (hts _ (mc m_101)) (fun _ h9 => h9) rfl (by decide +kernel) (by first | rfl | decide) (by first | rfl | decide) (Nat.le_of_ble_eq_true rfl) dX8_init_6 (fun H locs hP hD hS => ?_)
  have hP : va_P (dC, dI) classes [(q0, .inr (8, [.ref q1, .null, .null, .null, .int 0, .int 0, .int 0, .int 0, .int 0]))] H := hP
  have hD : va_D A [(q0, .inr (8, [.ref q1, .null, .null, .null, .int 0, .int 0, .int 0, .int 0, .int 0]))] := hD
  refine lv_aload_n hx hb dX8_init_9 rfl (lv_at hl 0 rfl) ?_
  refine lv_sipush (v := 3001) hx hb dX8_init_10 (by decide) ?_
  refine va_newa (atype := .int) (ty := .int) (N' := 3001) (a0 := (3001, .inl (fun _ => 0))) hx hb (hts _ (mc m_22)) rfl hK hP hD hS hA (fun _ => rfl) (by decide) (by decide) (by decide) (Nat.le_of_ble_eq_true rfl) (Nat.le_of_ble_eq_true rfl) dX8_init_13 (fun q101 k102 H hK hP hD hS => ?_)
  have hP : va_P (dC, dI) classes [(q0, .inr (8, [.ref q1, .null, .null, .null, .int 0, .int 0, .int 0, .int 0, .int 0])), (q101, .inl (k102, 3001, .inl (fun _ => 0)))] H := hP
  have hD : va_D A [(q0, .inr (8, [.ref q1, .null, .null, .null, .int 0, .int 0, .int 0, .int 0, .int 0])), (q101, .inl (k102, 3001, .inl (fun _ => 0)))] := hD
  have hK : va_K (dC, dI) classes [(k102, .int)] s := hK
  refine W.widen (k := 1) (n := 3001) (Nat.le_of_ble_eq_true rfl) (Nat.le_of_ble_eq_true rfl) ?_
  refine va_putF (D := (dC, dI)) (ci := 8) (v := .ref q101) (ty := .array .int) (C := RX8) (T := TX8) (N := 9) hx hb hts (fun w h => mc (in_X8 w h)) tyX8 tyX8_ok nmX8 hown hK hP hD hS 0 rfl rfl 1 (by decide) (hts _ (mc m_102)) (fun _ h9 => h9) rfl hin rfl (by decide +kernel) (by first | rfl | decide) (by first | rfl | decide) (Nat.le_of_ble_eq_true rfl) dX8_init_15 (fun H locs hP hD hS => ?_)
  have hP : va_P (dC, dI) classes [(q0, .inr (8, [.ref q1, .ref q101, .null, .null, .int 0, .int 0, .int 0, .int 0, .int 0])), (q101, .inl (k102, 3001, .inl (fun _ => 0)))] H := hP
  have hD : va_D A [(q0, .inr (8, [.ref q1, .ref q101, .null, .null, .int 0, .int 0, .int 0, .int 0, .int 0])), (q101, .inl (k102, 3001, .inl (fun _ => 0)))] := hD
  refine lv_aload_n hx hb dX8_init_18 rfl (lv_at hl 0 rfl) ?_
  refine lv_sipush (v := 3001) hx hb dX8_init_19 (by decide) ?_
  refine va_newa (atype := .int) (ty := .int) (N' := 3001) (a0 := (3001, .inl (fun _ => 0))) hx hb (hts _ (mc m_22)) rfl hK hP hD hS hA (fun _ => rfl) (by decide) (by decide) (by decide) (Nat.le_of_ble_eq_true rfl) (Nat.le_of_ble_eq_true rfl) dX8_init_22 (fun q103 k104 H hK hP hD hS => ?_)
  have hP : va_P (dC, dI) classes [(q0, .inr (8, [.ref q1, .ref q101, .null, .null, .int 0, .int 0, .int 0, .int 0, .int 0])), (q101, .inl (k102, 3001, .inl (fun _ => 0))), (q103, .inl (k104, 3001, .inl (fun _ => 0)))] H := hP
  have hD : va_D A [(q0, .inr (8, [.ref q1, .ref q101, .null, .null, .int 0, .int 0, .int 0, .int 0, .int 0])), (q101, .inl (k102, 3001, .inl (fun _ => 0))), (q103, .inl (k104, 3001, .inl (fun _ => 0)))] := hD
  have hK : va_K (dC, dI) classes [(k102, .int), (k104, .int)] s := hK
  refine W.widen (k := 2) (n := 6002) (Nat.le_of_ble_eq_true rfl) (Nat.le_of_ble_eq_true rfl) ?_
  refine va_putF (D := (dC, dI)) (ci := 8) (v := .ref q103) (ty := .array .int) (C := RX8) (T := TX8) (N := 9) hx hb hts (fun w h => mc (in_X8 w h)) tyX8 tyX8_ok nmX8 hown hK hP hD hS 0 rfl rfl 2 (by decide) (hts _ (mc m_103)) (fun _ h9 => h9) rfl hin rfl (by decide +kernel) (by first | rfl | decide) (by first | rfl | decide) (Nat.le_of_ble_eq_true rfl) dX8_init_24 (fun H locs hP hD hS => ?_)
  have hP : va_P (dC, dI) classes [(q0, .inr (8, [.ref q1, .ref q101, .ref q103, .null, .int 0, .int 0, .int 0, .int 0, .int 0])), (q101, .inl (k102, 3001, .inl (fun _ => 0))), (q103, .inl (k104, 3001, .inl (fun _ => 0)))] H := hP
  have hD : va_D A [(q0, .inr (8, [.ref q1, .ref q101, .ref q103, .null, .int 0, .int 0, .int 0, .int 0, .int 0])), (q101, .inl (k102, 3001, .inl (fun _ => 0))), (q103, .inl (k104, 3001, .inl (fun _ => 0)))] := hD
  refine lv_aload_n hx hb dX8_init_27 rfl (lv_at hl 0 rfl) ?_
  refine lv_sipush (v := 3001) hx hb dX8_init_28 (by decide) ?_
  refine va_newa (atype := .int) (ty := .int) (N' := 3001) (a0 := (3001, .inl (fun _ => 0))) hx hb (hts _ (mc m_22)) rfl hK hP hD hS hA (fun _ => rfl) (by decide) (by decide) (by decide) (Nat.le_of_ble_eq_true rfl) (Nat.le_of_ble_eq_true rfl) dX8_init_31 (fun q105 k106 H hK hP hD hS => ?_)
  have hP : va_P (dC, dI) classes [(q0, .inr (8, [.ref q1, .ref q101, .ref q103, .null, .int 0, .int 0, .int 0, .int 0, .int 0])), (q101, .inl (k102, 3001, .inl (fun _ => 0))), (q103, .inl (k104, 3001, .inl (fun _ => 0))), (q105, .inl (k106, 3001, .inl (fun _ => 0)))] H := hP
  have hD : va_D A [(q0, .inr (8, [.ref q1, .ref q101, .ref q103, .null, .int 0, .int 0, .int 0, .int 0, .int 0])), (q101, .inl (k102, 3001, .inl (fun _ => 0))), (q103, .inl (k104, 3001, .inl (fun _ => 0))), (q105, .inl (k106, 3001, .inl (fun _ => 0)))] := hD
  have hK : va_K (dC, dI) classes [(k102, .int), (k104, .int), (k106, .int)] s := hK
  refine W.widen (k := 3) (n := 9003) (Nat.le_of_ble_eq_true rfl) (Nat.le_of_ble_eq_true rfl) ?_
  refine va_putF (D := (dC, dI)) (ci := 8) (v := .ref q105) (ty := .array .int) (C := RX8) (T := TX8) (N := 9) hx hb hts (fun w h => mc (in_X8 w h)) tyX8 tyX8_ok nmX8 hown hK hP hD hS 0 rfl rfl 3 (by decide) (hts _ (mc m_104)) (fun _ h9 => h9) rfl hin rfl (by decide +kernel) (by first | rfl | decide) (by first | rfl | decide) (Nat.le_of_ble_eq_true rfl) dX8_init_33 (fun H locs hP hD hS => ?_)
  have hP : va_P (dC, dI) classes [(q0, .inr (8, [.ref q1, .ref q101, .ref q103, .ref q105, .int 0, .int 0, .int 0, .int 0, .int 0])), (q101, .inl (k102, 3001, .inl (fun _ => 0))), (q103, .inl (k104, 3001, .inl (fun _ => 0))), (q105, .inl (k106, 3001, .inl (fun _ => 0)))] H := hP
  have hD : va_D A [(q0, .inr (8, [.ref q1, .ref q101, .ref q103, .ref q105, .int 0, .int 0, .int 0, .int 0, .int 0])), (q101, .inl (k102, 3001, .inl (fun _ => 0))), (q103, .inl (k104, 3001, .inl (fun _ => 0))), (q105, .inl (k106, 3001, .inl (fun _ => 0)))] := hD
  refine lv_aload_n hx hb dX8_init_36 rfl (lv_at hl 0 rfl) ?_
  refine lv_iconst (v := 0) hx hb dX8_init_37 (by decide) ?_
  refine va_put (D := (dC, dI)) (ci := 8) (v := .int 0) (ty := .int) (C := RX8) (T := TX8) (N := 9) hx hb hts (fun w h => mc (in_X8 w h)) tyX8 tyX8_ok nmX8 hown hK hP hD hS 0 rfl rfl 4 (by decide) (hts _ (mc m_105)) (fun _ h9 => h9) rfl (by decide +kernel) (by first | rfl | decide) (by first | rfl | decide) (Nat.le_of_ble_eq_true rfl) dX8_init_38 (fun H locs hP hD hS => ?_)
  have hP : va_P (dC, dI) classes [(q0, .inr (8, [.ref q1, .ref q101, .ref q103, .ref q105, .int 0, .int 0, .int 0, .int 0, .int 0])), (q101, .inl (k102, 3001, .inl (fun _ => 0))), (q103, .inl (k104, 3001, .inl (fun _ => 0))), (q105, .inl (k106, 3001, .inl (fun _ => 0)))] H := hP
  have hD : va_D A [(q0, .inr (8, [.ref q1, .ref q101, .ref q103, .ref q105, .int 0, .int 0, .int 0, .int 0, .int 0])), (q101, .inl (k102, 3001, .inl (fun _ => 0))), (q103, .inl (k104, 3001, .inl (fun _ => 0))), (q105, .inl (k106, 3001, .inl (fun _ => 0)))] := hD
  refine lv_aload_n hx hb dX8_init_41 rfl (lv_at hl 0 rfl) ?_
  refine lv_iconst (v := 0) hx hb dX8_init_42 (by decide) ?_
  refine va_put (D := (dC, dI)) (ci := 8) (v := .int 0) (ty := .int) (C := RX8) (T := TX8) (N := 9) hx hb hts (fun w h => mc (in_X8 w h)) tyX8 tyX8_ok nmX8 hown hK hP hD hS 0 rfl rfl 5 (by decide) (hts _ (mc m_106)) (fun _ h9 => h9) rfl (by decide +kernel) (by first | rfl | decide) (by first | rfl | decide) (Nat.le_of_ble_eq_true rfl) dX8_init_43 (fun H locs hP hD hS => ?_)
  have hP : va_P (dC, dI) classes [(q0, .inr (8, [.ref q1, .ref q101, .ref q103, .ref q105, .int 0, .int 0, .int 0, .int 0, .int 0])), (q101, .inl (k102, 3001, .inl (fun _ => 0))), (q103, .inl (k104, 3001, .inl (fun _ => 0))), (q105, .inl (k106, 3001, .inl (fun _ => 0)))] H := hP
  have hD : va_D A [(q0, .inr (8, [.ref q1, .ref q101, .ref q103, .ref q105, .int 0, .int 0, .int 0, .int 0, .int 0])), (q101, .inl (k102, 3001, .inl (fun _ => 0))), (q103, .inl (k104, 3001, .inl (fun _ => 0))), (q105, .inl (k106, 3001, .inl (fun _ => 0)))] := hD
  refine lv_aload_n hx hb dX8_init_46 rfl (lv_at hl 0 rfl) ?_
  refine lv_iconst (v := 0) hx hb dX8_init_47 (by decide) ?_
  refine va_put (D := (dC, dI)) (ci := 8) (v := .int 0) (ty := .int) (C := RX8) (T := TX8) (N := 9) hx hb hts (fun w h => mc (in_X8 w h)) tyX8 tyX8_ok nmX8 hown hK hP hD hS 0 rfl rfl 6 (by decide) (hts _ (mc m_107)) (fun _ h9 => h9) rfl (by decide +kernel) (by first | rfl | decide) (by first | rfl | decide) (Nat.le_of_ble_eq_true rfl) dX8_init_48 (fun H locs hP hD hS => ?_)
  have hP : va_P (dC, dI) classes [(q0, .inr (8, [.ref q1, .ref q101, .ref q103, .ref q105, .int 0, .int 0, .int 0, .int 0, .int 0])), (q101, .inl (k102, 3001, .inl (fun _ => 0))), (q103, .inl (k104, 3001, .inl (fun _ => 0))), (q105, .inl (k106, 3001, .inl (fun _ => 0)))] H := hP
  have hD : va_D A [(q0, .inr (8, [.ref q1, .ref q101, .ref q103, .ref q105, .int 0, .int 0, .int 0, .int 0, .int 0])), (q101, .inl (k102, 3001, .inl (fun _ => 0))), (q103, .inl (k104, 3001, .inl (fun _ => 0))), (q105, .inl (k106, 3001, .inl (fun _ => 0)))] := hD
  refine lv_aload_n hx hb dX8_init_51 rfl (lv_at hl 0 rfl) ?_
  refine lv_iconst (v := 0) hx hb dX8_init_52 (by decide) ?_
  refine va_put (D := (dC, dI)) (ci := 8) (v := .int 0) (ty := .int) (C := RX8) (T := TX8) (N := 9) hx hb hts (fun w h => mc (in_X8 w h)) tyX8 tyX8_ok nmX8 hown hK hP hD hS 0 rfl rfl 7 (by decide) (hts _ (mc m_108)) (fun _ h9 => h9) rfl (by decide +kernel) (by first | rfl | decide) (by first | rfl | decide) (Nat.le_of_ble_eq_true rfl) dX8_init_53 (fun H locs hP hD hS => ?_)
  have hP : va_P (dC, dI) classes [(q0, .inr (8, [.ref q1, .ref q101, .ref q103, .ref q105, .int 0, .int 0, .int 0, .int 0, .int 0])), (q101, .inl (k102, 3001, .inl (fun _ => 0))), (q103, .inl (k104, 3001, .inl (fun _ => 0))), (q105, .inl (k106, 3001, .inl (fun _ => 0)))] H := hP
  have hD : va_D A [(q0, .inr (8, [.ref q1, .ref q101, .ref q103, .ref q105, .int 0, .int 0, .int 0, .int 0, .int 0])), (q101, .inl (k102, 3001, .inl (fun _ => 0))), (q103, .inl (k104, 3001, .inl (fun _ => 0))), (q105, .inl (k106, 3001, .inl (fun _ => 0)))] := hD
  refine lv_aload_n hx hb dX8_init_56 rfl (lv_at hl 0 rfl) ?_
  refine lv_iconst (v := 0) hx hb dX8_init_57 (by decide) ?_
  refine va_put (D := (dC, dI)) (ci := 8) (v := .int 0) (ty := .int) (C := RX8) (T := TX8) (N := 9) hx hb hts (fun w h => mc (in_X8 w h)) tyX8 tyX8_ok nmX8 hown hK hP hD hS 0 rfl rfl 8 (by decide) (hts _ (mc m_109)) (fun _ h9 => h9) rfl (by decide +kernel) (by first | rfl | decide) (by first | rfl | decide) (Nat.le_of_ble_eq_true rfl) dX8_init_58 (fun H locs hP hD hS => ?_)
  have hP : va_P (dC, dI) classes [(q0, .inr (8, [.ref q1, .ref q101, .ref q103, .ref q105, .int 0, .int 0, .int 0, .int 0, .int 0])), (q101, .inl (k102, 3001, .inl (fun _ => 0))), (q103, .inl (k104, 3001, .inl (fun _ => 0))), (q105, .inl (k106, 3001, .inl (fun _ => 0)))] H := hP
  have hD : va_D A [(q0, .inr (8, [.ref q1, .ref q101, .ref q103, .ref q105, .int 0, .int 0, .int 0, .int 0, .int 0])), (q101, .inl (k102, 3001, .inl (fun _ => 0))), (q103, .inl (k104, 3001, .inl (fun _ => 0))), (q105, .inl (k106, 3001, .inl (fun _ => 0)))] := hD
  exact W.vret hx hb hr (fun t ht hW => ⟨⟨(), rfl, trivial, q101, q103, q105, k102, k104, k106, by rw [ht]; exact hP, va_K.moved hW.alike hK, hD⟩, hS.F ht⟩) hS.2.2 dX8_init_61
set_option maxHeartbeats 4000000 in
set_option maxRecDepth 100000 in
theorem c_X6_init_0 (l : Launch) (dC : Nat → ClassId) (dI : Nat → Nat → Nat) (q0 : Nat) (q1 : Nat) (q2 : Nat) (q3 : Nat) (q4 : Nat) (q5 : Nat) (q6 : Nat) (q7 : Nat) (q8 : Nat) (q9 : Nat) (q10 : Nat) (q11 : Nat) (q12 : Nat) (sz : Nat) : Met l yX6_init (.code yX6_init cX6_init 2 none :: bigW) { frames := 2, cells := 5, slots := 9112, locals := 41 } (va_Pc [.ref q0, .ref q1] (q_In dC dI [(q0, .inr (6, [.null, .null, .null, .null, .int 0, .int 0])), (q1, .inr (7, [.ref q2, .int 0, .ref q3, .ref q4, .ref q5, .ref q6, .ref q7, .ref q8, .ref q9, .ref q10, .int 0, .int (-1), .int 0, .int (-1), .ref q11, .ref q12]))] [] sz)) (va_Qv (fun _ : Unit => True) (fun _ t => ∃ (q101 : Nat) (q108 : Nat) (q102 : Nat) (q103 : Nat) (q104 : Nat) (k105 : ClassId) (k106 : ClassId) (k107 : ClassId), va_P (dC, dI) classes [(q0, .inr (6, [.ref q1, .ref q12, .ref q101, .ref q108, .int 0, .int (-1)])), (q1, .inr (7, [.ref q2, .int 0, .ref q3, .ref q4, .ref q5, .ref q6, .ref q7, .ref q8, .ref q9, .ref q10, .int 0, .int (-1), .int 0, .int (-1), .ref q11, .ref q12])), (q101, .inr (8, [.ref q1, .ref q102, .ref q103, .ref q104, .int 0, .int 0, .int 0, .int 0, .int 0])), (q102, .inl (k105, 3001, .inl (fun _ => 0))), (q103, .inl (k106, 3001, .inl (fun _ => 0))), (q104, .inl (k107, 3001, .inl (fun _ => 0)))] t.heap ∧ va_K (dC, dI) classes [(k105, .int), (k106, .int), (k107, .int)] t ∧ va_D (va_A [(q0, .inr (6, [.null, .null, .null, .null, .int 0, .int 0])), (q1, .inr (7, [.ref q2, .int 0, .ref q3, .ref q4, .ref q5, .ref q6, .ref q7, .ref q8, .ref q9, .ref q10, .int 0, .int (-1), .int 0, .int (-1), .ref q11, .ref q12]))] sz) [(q0, .inr (6, [.ref q1, .ref q12, .ref q101, .ref q108, .int 0, .int (-1)])), (q1, .inr (7, [.ref q2, .int 0, .ref q3, .ref q4, .ref q5, .ref q6, .ref q7, .ref q8, .ref q9, .ref q10, .int 0, .int (-1), .int 0, .int (-1), .ref q11, .ref q12])), (q101, .inr (8, [.ref q1, .ref q102, .ref q103, .ref q104, .int 0, .int 0, .int 0, .int 0, .int 0])), (q102, .inl (k105, 3001, .inl (fun _ => 0))), (q103, .inl (k106, 3001, .inl (fun _ => 0))), (q104, .inl (k107, 3001, .inl (fun _ => 0)))]) (va_A [(q0, .inr (6, [.null, .null, .null, .null, .int 0, .int 0])), (q1, .inr (7, [.ref q2, .int 0, .ref q3, .ref q4, .ref q5, .ref q6, .ref q7, .ref q8, .ref q9, .ref q10, .int 0, .int (-1), .int 0, .int (-1), .ref q11, .ref q12]))] sz)) 5 9112 (va_A [(q0, .inr (6, [.null, .null, .null, .null, .int 0, .int 0])), (q1, .inr (7, [.ref q2, .int 0, .ref q3, .ref q4, .ref q5, .ref q6, .ref q7, .ref q8, .ref q9, .ref q10, .int 0, .int (-1), .int 0, .int (-1), .ref q11, .ref q12]))] sz) := by
  refine Met.ofW (cc := cX6_init) (maxL := 2) (ret := none) (by decide) rfl ?_
  intro p e s m args below meth c s₁ B hml hv
  obtain ⟨rfl, hsz, hP, hK, hD0, hE⟩ := hv
  have hx := B.exec
  have hb := B.bytes
  have hr := B.returns
  have hts := atoms_spec (ws := .code yX6_init cX6_init 2 none :: bigW) B.pre
  have hown : s.vm.findClass RX6 = some m.cls := findClass_of_methodNamed B.named
  have hlocks := B.notSynchronized
  have hin : meth.name = "<init>" := (name_of_methodNamed B.named B.method).1
  subst hsz
  have hD := hD0.self (sz := s.heap.size)
  generalize hAe : va_A [(q0, .inr (6, [.null, .null, .null, .null, .int 0, .int 0])), (q1, .inr (7, [.ref q2, .int 0, .ref q3, .ref q4, .ref q5, .ref q6, .ref q7, .ref q8, .ref q9, .ref q10, .int 0, .int (-1), .int 0, .int (-1), .ref q11, .ref q12]))] s.heap.size = A at hD hE ⊢
  have hN : q_N s := hE.2.2.2.1
  have hA : ∀ q : Nat, s.heap.size ≤ q → A q := fun q h => by rw [← hAe]; exact Or.inr h
  have hS : va_S A s.heap s.heap [] := va_S.rf
  have hP : va_P (dC, dI) classes [(q0, .inr (6, [.null, .null, .null, .null, .int 0, .int 0])), (q1, .inr (7, [.ref q2, .int 0, .ref q3, .ref q4, .ref q5, .ref q6, .ref q7, .ref q8, .ref q9, .ref q10, .int 0, .int (-1), .int 0, .int (-1), .ref q11, .ref q12]))] s.heap := hP
  have hl := lv_entry ([.ref q0, .ref q1]) (n := 2) (Nat.le_of_ble_eq_true rfl)
  rw [lg_entry_eq]
  generalize (lg_sl ([.ref q0, .ref q1]) ++ List.replicate (2 - (lg_sl ([.ref q0, .ref q1])).length) Slot.unset).toArray = ls at hl ⊢
  have hl : lv_has ls 2 [(0, .ref q0), (1, .ref q1)] := hl
  refine lv_aload_n hx hb dX6_init_0 rfl (lv_at hl 0 rfl) ?_
  refine W.objInit hx hb hown (hts _ (mc m_90)) (hts _ (mc m_1)) (hts _ (mc m_2)) rfl (by rw [hml]; exact hl.1) rfl dX6_init_1 (Nat.le_of_ble_eq_true rfl) (Nat.le_of_ble_eq_true rfl) ?_
  refine W.eq (g2 := F0 m 4 ls []) rfl ?_
  refine lv_aload_n hx hb dX6_init_4 rfl (lv_at hl 0 rfl) ?_
  refine lv_aload_n hx hb dX6_init_5 rfl (lv_at hl 1 rfl) ?_
  refine va_put (D := (dC, dI)) (ci := 6) (v := .ref q1) (ty := .object "ThreeMills$Program") (C := RX6) (T := TX6) (N := 6) hx hb hts (fun w h => mc (in_X6 w h)) tyX6 tyX6_ok nmX6 hown hK hP hD hS 0 rfl rfl 0 (by decide) (hts _ (mc m_91)) (fun _ h9 => h9) rfl (by decide +kernel) (by first | rfl | decide) (by first | rfl | decide) (Nat.le_of_ble_eq_true rfl) dX6_init_6 (fun H locs hP hD hS => ?_)
  have hP : va_P (dC, dI) classes [(q0, .inr (6, [.ref q1, .null, .null, .null, .int 0, .int 0])), (q1, .inr (7, [.ref q2, .int 0, .ref q3, .ref q4, .ref q5, .ref q6, .ref q7, .ref q8, .ref q9, .ref q10, .int 0, .int (-1), .int 0, .int (-1), .ref q11, .ref q12]))] H := hP
  have hD : va_D A [(q0, .inr (6, [.ref q1, .null, .null, .null, .int 0, .int 0])), (q1, .inr (7, [.ref q2, .int 0, .ref q3, .ref q4, .ref q5, .ref q6, .ref q7, .ref q8, .ref q9, .ref q10, .int 0, .int (-1), .int 0, .int (-1), .ref q11, .ref q12]))] := hD
  refine lv_aload_n hx hb dX6_init_9 rfl (lv_at hl 0 rfl) ?_
  refine lv_aload_n hx hb dX6_init_10 rfl (lv_at hl 1 rfl) ?_
  have hPc := hP.sub (ws' := [(q1, .inr (7, [.ref q2, .int 0, .ref q3, .ref q4, .ref q5, .ref q6, .ref q7, .ref q8, .ref q9, .ref q10, .int 0, .int (-1), .int 0, .int (-1), .ref q11, .ref q12]))]) [1] rfl
  have hDc := hD.sub (ws' := [(q1, .inr (7, [.ref q2, .int 0, .ref q3, .ref q4, .ref q5, .ref q6, .ref q7, .ref q8, .ref q9, .ref q10, .int 0, .int (-1), .int 0, .int (-1), .ref q11, .ref q12]))]) [1] (by decide) rfl
  have hKc := hK.sub (tys' := []) [] rfl
  have hFc := va_free (wc := [(q1, .inr (7, [.ref q2, .int 0, .ref q3, .ref q4, .ref q5, .ref q6, .ref q7, .ref q8, .ref q9, .ref q10, .int 0, .int (-1), .int 0, .int (-1), .ref q11, .ref q12]))]) hD hS hA [1] rfl
  refine va_callr (va_runV (As := []) (rest := [.ref q0]) ⟨hx, hb, hml, hown, hts⟩ (c_X7_bindings_0 l dC dI q1 q2 q3 q4 q5 q6 q7 q8 q9 q10 q11 q12 H.size) (cwV 0 hts (gV m_93 m_94 m_95 m_18 m_92) rfl rfl rfl (by decide +kernel) ⟨Nat.le_of_ble_eq_true rfl, Nat.le_of_ble_eq_true rfl⟩) ⟨q_bl, va_recv hKc hPc (ci := 7) (q0 := 0) rfl rfl, q_pre hPc hKc hDc hE hS hFc⟩ rfl rfl hl.1 rfl (lv_room (Nat.le_of_ble_eq_true rfl)) dX6_init_11 ⟨Nat.le_of_ble_eq_true rfl, Nat.le_of_ble_eq_true rfl⟩) hS (fun q _ h => hFc q h) hFc (fun u ra9 t H1 locs ht hvm hw hB hz1 hk1 hS => ?_)
  obtain ⟨hra, hP1, hK1, hD1⟩ := hB
  rw [ht] at hP1
  have hK1 := va_K.moved hvm.symm hK1
  obtain ⟨hP, hD⟩ := va_join (wr := [(q0, .inr (6, [.ref q1, .null, .null, .null, .int 0, .int 0]))]) (w1 := [(q1, .inr (7, [.ref q2, .int 0, .ref q3, .ref q4, .ref q5, .ref q6, .ref q7, .ref q8, .ref q9, .ref q10, .int 0, .int (-1), .int 0, .int (-1), .ref q11, .ref q12]))]) hP hD [1] [0] rfl rfl (by decide) (by decide) hk1 hFc hP1 hD1
  have hK := (hK.sub (tys' := []) [] rfl).app hK1
  generalize H1 = H at hP hS ⊢
  have hP : va_P (dC, dI) classes [(q0, .inr (6, [.ref q1, .null, .null, .null, .int 0, .int 0])), (q1, .inr (7, [.ref q2, .int 0, .ref q3, .ref q4, .ref q5, .ref q6, .ref q7, .ref q8, .ref q9, .ref q10, .int 0, .int (-1), .int 0, .int (-1), .ref q11, .ref q12]))] H := hP
  have hD : va_D A [(q0, .inr (6, [.ref q1, .null, .null, .null, .int 0, .int 0])), (q1, .inr (7, [.ref q2, .int 0, .ref q3, .ref q4, .ref q5, .ref q6, .ref q7, .ref q8, .ref q9, .ref q10, .int 0, .int (-1), .int 0, .int (-1), .ref q11, .ref q12]))] := hD
  have hK : va_K (dC, dI) classes [] s := hK
  rw [hra]
  refine va_put (D := (dC, dI)) (ci := 6) (v := .ref q12) (ty := .object "ThreeMills$Bindings") (C := RX6) (T := TX6) (N := 6) hx hb hts (fun w h => mc (in_X6 w h)) tyX6 tyX6_ok nmX6 hown hK hP hD hS 0 rfl rfl 1 (by decide) (hts _ (mc m_96)) (fun _ h9 => h9) rfl (by decide +kernel) (by first | rfl | decide) (by first | rfl | decide) (Nat.le_of_ble_eq_true rfl) dX6_init_14 (fun H locs hP hD hS => ?_)
  have hP : va_P (dC, dI) classes [(q0, .inr (6, [.ref q1, .ref q12, .null, .null, .int 0, .int 0])), (q1, .inr (7, [.ref q2, .int 0, .ref q3, .ref q4, .ref q5, .ref q6, .ref q7, .ref q8, .ref q9, .ref q10, .int 0, .int (-1), .int 0, .int (-1), .ref q11, .ref q12]))] H := hP
  have hD : va_D A [(q0, .inr (6, [.ref q1, .ref q12, .null, .null, .int 0, .int 0])), (q1, .inr (7, [.ref q2, .int 0, .ref q3, .ref q4, .ref q5, .ref q6, .ref q7, .ref q8, .ref q9, .ref q10, .int 0, .int (-1), .int 0, .int (-1), .ref q11, .ref q12]))] := hD
  refine lv_aload_n hx hb dX6_init_17 rfl (lv_at hl 0 rfl) ?_
  refine va_new (ci := 8) (fs := [.null, .null, .null, .null, .int 0, .int 0, .int 0, .int 0, .int 0]) (C := RX8) (T := TX8) (N := 9) hx hb hts (fun w h => mc (in_X8 w h)) tyX8 tyX8_ok hown (hts _ (mc m_97)) (hts _ (mc m_98)) (hts _ (mc m_99)) hK hP hD hS hA rfl (by decide) (Nat.le_of_ble_eq_true rfl) (Nat.le_of_ble_eq_true rfl) dX6_init_18 (fun q101 H hP hD hS => ?_)
  have hP : va_P (dC, dI) classes [(q0, .inr (6, [.ref q1, .ref q12, .null, .null, .int 0, .int 0])), (q1, .inr (7, [.ref q2, .int 0, .ref q3, .ref q4, .ref q5, .ref q6, .ref q7, .ref q8, .ref q9, .ref q10, .int 0, .int (-1), .int 0, .int (-1), .ref q11, .ref q12])), (q101, .inr (8, [.null, .null, .null, .null, .int 0, .int 0, .int 0, .int 0, .int 0]))] H := hP
  have hD : va_D A [(q0, .inr (6, [.ref q1, .ref q12, .null, .null, .int 0, .int 0])), (q1, .inr (7, [.ref q2, .int 0, .ref q3, .ref q4, .ref q5, .ref q6, .ref q7, .ref q8, .ref q9, .ref q10, .int 0, .int (-1), .int 0, .int (-1), .ref q11, .ref q12])), (q101, .inr (8, [.null, .null, .null, .null, .int 0, .int 0, .int 0, .int 0, .int 0]))] := hD
  refine W.widen (k := 1) (n := 9) (Nat.le_of_ble_eq_true rfl) (Nat.le_of_ble_eq_true rfl) ?_
  refine lv_dup hx hb dX6_init_21 rfl ?_
  refine lv_aload_n hx hb dX6_init_22 rfl (lv_at hl 1 rfl) ?_
  have hPc := hP.sub (ws' := [(q101, .inr (8, [.null, .null, .null, .null, .int 0, .int 0, .int 0, .int 0, .int 0]))]) [2] rfl
  have hDc := hD.sub (ws' := [(q101, .inr (8, [.null, .null, .null, .null, .int 0, .int 0, .int 0, .int 0, .int 0]))]) [2] (by decide) rfl
  have hKc := hK.sub (tys' := []) [] rfl
  have hFc := va_free (wc := [(q101, .inr (8, [.null, .null, .null, .null, .int 0, .int 0, .int 0, .int 0, .int 0]))]) hD hS hA [2] rfl
  refine va_callv (va_runI (As := [.ref q1]) (rest := [.ref q101, .ref q0]) ⟨hx, hb, hml, hown, hts⟩ (c_X8_init_0 l dC dI q101 q1 H.size) (cwI 1 hts (gI m_110) rfl rfl rfl (hts _ (mc m_99)) (hts _ (mc m_111)) (hts _ (mc m_112)) rfl (by decide +kernel) ⟨Nat.le_of_ble_eq_true rfl, Nat.le_of_ble_eq_true rfl⟩) ⟨q_bl, q_pre hPc hKc hDc hE hS hFc⟩ rfl rfl hl.1 rfl (lv_room (Nat.le_of_ble_eq_true rfl)) dX6_init_23 ⟨Nat.le_of_ble_eq_true rfl, Nat.le_of_ble_eq_true rfl⟩) hS (fun q _ h => hFc q h) hFc (fun u t H1 locs ht hvm hw hB hz1 hk1 hS => ?_)
  obtain ⟨q102, q103, q104, k105, k106, k107, hP1, hK1, hD1⟩ := hB
  rw [ht] at hP1
  have hK1 := va_K.moved hvm.symm hK1
  obtain ⟨hP, hD⟩ := va_join (wr := [(q0, .inr (6, [.ref q1, .ref q12, .null, .null, .int 0, .int 0])), (q1, .inr (7, [.ref q2, .int 0, .ref q3, .ref q4, .ref q5, .ref q6, .ref q7, .ref q8, .ref q9, .ref q10, .int 0, .int (-1), .int 0, .int (-1), .ref q11, .ref q12]))]) (w1 := [(q101, .inr (8, [.ref q1, .ref q102, .ref q103, .ref q104, .int 0, .int 0, .int 0, .int 0, .int 0])), (q102, .inl (k105, 3001, .inl (fun _ => 0))), (q103, .inl (k106, 3001, .inl (fun _ => 0))), (q104, .inl (k107, 3001, .inl (fun _ => 0)))]) hP hD [2] [0, 1] rfl rfl (by decide) (by decide) hk1 hFc hP1 hD1
  have hK := (hK.sub (tys' := []) [] rfl).app hK1
  generalize H1 = H at hP hS ⊢
  have hP : va_P (dC, dI) classes [(q0, .inr (6, [.ref q1, .ref q12, .null, .null, .int 0, .int 0])), (q1, .inr (7, [.ref q2, .int 0, .ref q3, .ref q4, .ref q5, .ref q6, .ref q7, .ref q8, .ref q9, .ref q10, .int 0, .int (-1), .int 0, .int (-1), .ref q11, .ref q12])), (q101, .inr (8, [.ref q1, .ref q102, .ref q103, .ref q104, .int 0, .int 0, .int 0, .int 0, .int 0])), (q102, .inl (k105, 3001, .inl (fun _ => 0))), (q103, .inl (k106, 3001, .inl (fun _ => 0))), (q104, .inl (k107, 3001, .inl (fun _ => 0)))] H := hP
  have hD : va_D A [(q0, .inr (6, [.ref q1, .ref q12, .null, .null, .int 0, .int 0])), (q1, .inr (7, [.ref q2, .int 0, .ref q3, .ref q4, .ref q5, .ref q6, .ref q7, .ref q8, .ref q9, .ref q10, .int 0, .int (-1), .int 0, .int (-1), .ref q11, .ref q12])), (q101, .inr (8, [.ref q1, .ref q102, .ref q103, .ref q104, .int 0, .int 0, .int 0, .int 0, .int 0])), (q102, .inl (k105, 3001, .inl (fun _ => 0))), (q103, .inl (k106, 3001, .inl (fun _ => 0))), (q104, .inl (k107, 3001, .inl (fun _ => 0)))] := hD
  have hK : va_K (dC, dI) classes [(k105, .int), (k106, .int), (k107, .int)] s := hK
  refine W.widen (k := 4) (n := 9012) (Nat.le_of_ble_eq_true rfl) (Nat.le_of_ble_eq_true rfl) ?_
  refine va_putF (D := (dC, dI)) (ci := 6) (v := .ref q101) (ty := .object "ThreeMills$Scanner") (C := RX6) (T := TX6) (N := 6) hx hb hts (fun w h => mc (in_X6 w h)) tyX6 tyX6_ok nmX6 hown hK hP hD hS 0 rfl rfl 2 (by decide) (hts _ (mc m_113)) (fun _ h9 => h9) rfl hin rfl (by decide +kernel) (by first | rfl | decide) (by first | rfl | decide) (Nat.le_of_ble_eq_true rfl) dX6_init_26 (fun H locs hP hD hS => ?_)
  have hP : va_P (dC, dI) classes [(q0, .inr (6, [.ref q1, .ref q12, .ref q101, .null, .int 0, .int 0])), (q1, .inr (7, [.ref q2, .int 0, .ref q3, .ref q4, .ref q5, .ref q6, .ref q7, .ref q8, .ref q9, .ref q10, .int 0, .int (-1), .int 0, .int (-1), .ref q11, .ref q12])), (q101, .inr (8, [.ref q1, .ref q102, .ref q103, .ref q104, .int 0, .int 0, .int 0, .int 0, .int 0])), (q102, .inl (k105, 3001, .inl (fun _ => 0))), (q103, .inl (k106, 3001, .inl (fun _ => 0))), (q104, .inl (k107, 3001, .inl (fun _ => 0)))] H := hP
  have hD : va_D A [(q0, .inr (6, [.ref q1, .ref q12, .ref q101, .null, .int 0, .int 0])), (q1, .inr (7, [.ref q2, .int 0, .ref q3, .ref q4, .ref q5, .ref q6, .ref q7, .ref q8, .ref q9, .ref q10, .int 0, .int (-1), .int 0, .int (-1), .ref q11, .ref q12])), (q101, .inr (8, [.ref q1, .ref q102, .ref q103, .ref q104, .int 0, .int 0, .int 0, .int 0, .int 0])), (q102, .inl (k105, 3001, .inl (fun _ => 0))), (q103, .inl (k106, 3001, .inl (fun _ => 0))), (q104, .inl (k107, 3001, .inl (fun _ => 0)))] := hD
  refine lv_aload_n hx hb dX6_init_29 rfl (lv_at hl 0 rfl) ?_
  refine lv_bipush (v := 100) hx hb dX6_init_30 (by decide) ?_
  refine va_newa (atype := .int) (ty := .int) (N' := 100) (a0 := (100, .inl (fun _ => 0))) hx hb (hts _ (mc m_22)) rfl hK hP hD hS hA (fun _ => rfl) (by decide) (by decide) (by decide) (Nat.le_of_ble_eq_true rfl) (Nat.le_of_ble_eq_true rfl) dX6_init_32 (fun q108 k109 H hK hP hD hS => ?_)
  have hP : va_P (dC, dI) classes [(q0, .inr (6, [.ref q1, .ref q12, .ref q101, .null, .int 0, .int 0])), (q1, .inr (7, [.ref q2, .int 0, .ref q3, .ref q4, .ref q5, .ref q6, .ref q7, .ref q8, .ref q9, .ref q10, .int 0, .int (-1), .int 0, .int (-1), .ref q11, .ref q12])), (q101, .inr (8, [.ref q1, .ref q102, .ref q103, .ref q104, .int 0, .int 0, .int 0, .int 0, .int 0])), (q102, .inl (k105, 3001, .inl (fun _ => 0))), (q103, .inl (k106, 3001, .inl (fun _ => 0))), (q104, .inl (k107, 3001, .inl (fun _ => 0))), (q108, .inl (k109, 100, .inl (fun _ => 0)))] H := hP
  have hD : va_D A [(q0, .inr (6, [.ref q1, .ref q12, .ref q101, .null, .int 0, .int 0])), (q1, .inr (7, [.ref q2, .int 0, .ref q3, .ref q4, .ref q5, .ref q6, .ref q7, .ref q8, .ref q9, .ref q10, .int 0, .int (-1), .int 0, .int (-1), .ref q11, .ref q12])), (q101, .inr (8, [.ref q1, .ref q102, .ref q103, .ref q104, .int 0, .int 0, .int 0, .int 0, .int 0])), (q102, .inl (k105, 3001, .inl (fun _ => 0))), (q103, .inl (k106, 3001, .inl (fun _ => 0))), (q104, .inl (k107, 3001, .inl (fun _ => 0))), (q108, .inl (k109, 100, .inl (fun _ => 0)))] := hD
  have hK : va_K (dC, dI) classes [(k105, .int), (k106, .int), (k107, .int), (k109, .int)] s := hK
  refine W.widen (k := 5) (n := 9112) (Nat.le_of_ble_eq_true rfl) (Nat.le_of_ble_eq_true rfl) ?_
  refine va_putF (D := (dC, dI)) (ci := 6) (v := .ref q108) (ty := .array .int) (C := RX6) (T := TX6) (N := 6) hx hb hts (fun w h => mc (in_X6 w h)) tyX6 tyX6_ok nmX6 hown hK hP hD hS 0 rfl rfl 3 (by decide) (hts _ (mc m_114)) (fun _ h9 => h9) rfl hin rfl (by decide +kernel) (by first | rfl | decide) (by first | rfl | decide) (Nat.le_of_ble_eq_true rfl) dX6_init_34 (fun H locs hP hD hS => ?_)
  have hP : va_P (dC, dI) classes [(q0, .inr (6, [.ref q1, .ref q12, .ref q101, .ref q108, .int 0, .int 0])), (q1, .inr (7, [.ref q2, .int 0, .ref q3, .ref q4, .ref q5, .ref q6, .ref q7, .ref q8, .ref q9, .ref q10, .int 0, .int (-1), .int 0, .int (-1), .ref q11, .ref q12])), (q101, .inr (8, [.ref q1, .ref q102, .ref q103, .ref q104, .int 0, .int 0, .int 0, .int 0, .int 0])), (q102, .inl (k105, 3001, .inl (fun _ => 0))), (q103, .inl (k106, 3001, .inl (fun _ => 0))), (q104, .inl (k107, 3001, .inl (fun _ => 0))), (q108, .inl (k109, 100, .inl (fun _ => 0)))] H := hP
  have hD : va_D A [(q0, .inr (6, [.ref q1, .ref q12, .ref q101, .ref q108, .int 0, .int 0])), (q1, .inr (7, [.ref q2, .int 0, .ref q3, .ref q4, .ref q5, .ref q6, .ref q7, .ref q8, .ref q9, .ref q10, .int 0, .int (-1), .int 0, .int (-1), .ref q11, .ref q12])), (q101, .inr (8, [.ref q1, .ref q102, .ref q103, .ref q104, .int 0, .int 0, .int 0, .int 0, .int 0])), (q102, .inl (k105, 3001, .inl (fun _ => 0))), (q103, .inl (k106, 3001, .inl (fun _ => 0))), (q104, .inl (k107, 3001, .inl (fun _ => 0))), (q108, .inl (k109, 100, .inl (fun _ => 0)))] := hD
  have hP := hP.sub (ws' := [(q0, .inr (6, [.ref q1, .ref q12, .ref q101, .ref q108, .int 0, .int 0])), (q1, .inr (7, [.ref q2, .int 0, .ref q3, .ref q4, .ref q5, .ref q6, .ref q7, .ref q8, .ref q9, .ref q10, .int 0, .int (-1), .int 0, .int (-1), .ref q11, .ref q12])), (q101, .inr (8, [.ref q1, .ref q102, .ref q103, .ref q104, .int 0, .int 0, .int 0, .int 0, .int 0])), (q102, .inl (k105, 3001, .inl (fun _ => 0))), (q103, .inl (k106, 3001, .inl (fun _ => 0))), (q104, .inl (k107, 3001, .inl (fun _ => 0)))]) [0, 1, 2, 3, 4, 5] rfl
  have hD := hD.sub (ws' := [(q0, .inr (6, [.ref q1, .ref q12, .ref q101, .ref q108, .int 0, .int 0])), (q1, .inr (7, [.ref q2, .int 0, .ref q3, .ref q4, .ref q5, .ref q6, .ref q7, .ref q8, .ref q9, .ref q10, .int 0, .int (-1), .int 0, .int (-1), .ref q11, .ref q12])), (q101, .inr (8, [.ref q1, .ref q102, .ref q103, .ref q104, .int 0, .int 0, .int 0, .int 0, .int 0])), (q102, .inl (k105, 3001, .inl (fun _ => 0))), (q103, .inl (k106, 3001, .inl (fun _ => 0))), (q104, .inl (k107, 3001, .inl (fun _ => 0)))]) [0, 1, 2, 3, 4, 5] (by decide) rfl
  have hK := hK.sub (tys' := [(k105, .int), (k106, .int), (k107, .int)]) [0, 1, 2] rfl
  refine lv_aload_n hx hb dX6_init_37 rfl (lv_at hl 0 rfl) ?_
  refine lv_iconst (v := 0) hx hb dX6_init_38 (by decide) ?_
  refine va_put (D := (dC, dI)) (ci := 6) (v := .int 0) (ty := .int) (C := RX6) (T := TX6) (N := 6) hx hb hts (fun w h => mc (in_X6 w h)) tyX6 tyX6_ok nmX6 hown hK hP hD hS 0 rfl rfl 4 (by decide) (hts _ (mc m_115)) (fun _ h9 => h9) rfl (by decide +kernel) (by first | rfl | decide) (by first | rfl | decide) (Nat.le_of_ble_eq_true rfl) dX6_init_39 (fun H locs hP hD hS => ?_)
  have hP : va_P (dC, dI) classes [(q0, .inr (6, [.ref q1, .ref q12, .ref q101, .ref q108, .int 0, .int 0])), (q1, .inr (7, [.ref q2, .int 0, .ref q3, .ref q4, .ref q5, .ref q6, .ref q7, .ref q8, .ref q9, .ref q10, .int 0, .int (-1), .int 0, .int (-1), .ref q11, .ref q12])), (q101, .inr (8, [.ref q1, .ref q102, .ref q103, .ref q104, .int 0, .int 0, .int 0, .int 0, .int 0])), (q102, .inl (k105, 3001, .inl (fun _ => 0))), (q103, .inl (k106, 3001, .inl (fun _ => 0))), (q104, .inl (k107, 3001, .inl (fun _ => 0)))] H := hP
  have hD : va_D A [(q0, .inr (6, [.ref q1, .ref q12, .ref q101, .ref q108, .int 0, .int 0])), (q1, .inr (7, [.ref q2, .int 0, .ref q3, .ref q4, .ref q5, .ref q6, .ref q7, .ref q8, .ref q9, .ref q10, .int 0, .int (-1), .int 0, .int (-1), .ref q11, .ref q12])), (q101, .inr (8, [.ref q1, .ref q102, .ref q103, .ref q104, .int 0, .int 0, .int 0, .int 0, .int 0])), (q102, .inl (k105, 3001, .inl (fun _ => 0))), (q103, .inl (k106, 3001, .inl (fun _ => 0))), (q104, .inl (k107, 3001, .inl (fun _ => 0)))] := hD
  refine lv_aload_n hx hb dX6_init_42 rfl (lv_at hl 0 rfl) ?_
  refine lv_iconst (v := (-1)) hx hb dX6_init_43 (by decide) ?_
  refine va_put (D := (dC, dI)) (ci := 6) (v := .int (-1)) (ty := .int) (C := RX6) (T := TX6) (N := 6) hx hb hts (fun w h => mc (in_X6 w h)) tyX6 tyX6_ok nmX6 hown hK hP hD hS 0 rfl rfl 5 (by decide) (hts _ (mc m_116)) (fun _ h9 => h9) rfl (by decide +kernel) (by first | rfl | decide) (by first | rfl | decide) (Nat.le_of_ble_eq_true rfl) dX6_init_44 (fun H locs hP hD hS => ?_)
  have hP : va_P (dC, dI) classes [(q0, .inr (6, [.ref q1, .ref q12, .ref q101, .ref q108, .int 0, .int (-1)])), (q1, .inr (7, [.ref q2, .int 0, .ref q3, .ref q4, .ref q5, .ref q6, .ref q7, .ref q8, .ref q9, .ref q10, .int 0, .int (-1), .int 0, .int (-1), .ref q11, .ref q12])), (q101, .inr (8, [.ref q1, .ref q102, .ref q103, .ref q104, .int 0, .int 0, .int 0, .int 0, .int 0])), (q102, .inl (k105, 3001, .inl (fun _ => 0))), (q103, .inl (k106, 3001, .inl (fun _ => 0))), (q104, .inl (k107, 3001, .inl (fun _ => 0)))] H := hP
  have hD : va_D A [(q0, .inr (6, [.ref q1, .ref q12, .ref q101, .ref q108, .int 0, .int (-1)])), (q1, .inr (7, [.ref q2, .int 0, .ref q3, .ref q4, .ref q5, .ref q6, .ref q7, .ref q8, .ref q9, .ref q10, .int 0, .int (-1), .int 0, .int (-1), .ref q11, .ref q12])), (q101, .inr (8, [.ref q1, .ref q102, .ref q103, .ref q104, .int 0, .int 0, .int 0, .int 0, .int 0])), (q102, .inl (k105, 3001, .inl (fun _ => 0))), (q103, .inl (k106, 3001, .inl (fun _ => 0))), (q104, .inl (k107, 3001, .inl (fun _ => 0)))] := hD
  exact W.vret hx hb hr (fun t ht hW => ⟨⟨(), rfl, trivial, q101, q108, q102, q103, q104, k105, k106, k107, by rw [ht]; exact hP, va_K.moved hW.alike hK, hD⟩, hS.F ht⟩) hS.2.2 dX6_init_47
set_option maxHeartbeats 4000000 in
set_option maxRecDepth 100000 in
theorem c_X7_types_0 (l : Launch) (dC : Nat → ClassId) (dI : Nat → Nat → Nat) (q0 : Nat) (q1 : Nat) (q2 : Nat) (q3 : Nat) (q4 : Nat) (q5 : Nat) (q6 : Nat) (q7 : Nat) (q8 : Nat) (q9 : Nat) (q10 : Nat) (q11 : Nat) (sz : Nat) : Met l yX7_types (.code yX7_types cX7_types 1 (some (.object "ThreeMills$Types")) :: bigW) { frames := 0, cells := 0, slots := 0, locals := 0 } (va_Pc [.ref q0] (q_In dC dI [(q0, .inr (7, [.ref q1, .int 0, .ref q2, .ref q3, .ref q4, .ref q5, .ref q6, .ref q7, .ref q8, .ref q9, .int 0, .int (-1), .int 0, .int (-1), .ref q10, .ref q11]))] [] sz)) (va_Qr (fun _ : Unit => True) (fun _ a9 t => a9 = q10 ∧ va_P (dC, dI) classes [(q0, .inr (7, [.ref q1, .int 0, .ref q2, .ref q3, .ref q4, .ref q5, .ref q6, .ref q7, .ref q8, .ref q9, .int 0, .int (-1), .int 0, .int (-1), .ref q10, .ref q11]))] t.heap ∧ va_K (dC, dI) classes [] t ∧ va_D (va_A [(q0, .inr (7, [.ref q1, .int 0, .ref q2, .ref q3, .ref q4, .ref q5, .ref q6, .ref q7, .ref q8, .ref q9, .int 0, .int (-1), .int 0, .int (-1), .ref q10, .ref q11]))] sz) [(q0, .inr (7, [.ref q1, .int 0, .ref q2, .ref q3, .ref q4, .ref q5, .ref q6, .ref q7, .ref q8, .ref q9, .int 0, .int (-1), .int 0, .int (-1), .ref q10, .ref q11]))]) (va_A [(q0, .inr (7, [.ref q1, .int 0, .ref q2, .ref q3, .ref q4, .ref q5, .ref q6, .ref q7, .ref q8, .ref q9, .int 0, .int (-1), .int 0, .int (-1), .ref q10, .ref q11]))] sz)) 0 0 (va_A [(q0, .inr (7, [.ref q1, .int 0, .ref q2, .ref q3, .ref q4, .ref q5, .ref q6, .ref q7, .ref q8, .ref q9, .int 0, .int (-1), .int 0, .int (-1), .ref q10, .ref q11]))] sz) := by
  refine Met.ofW (cc := cX7_types) (maxL := 1) (ret := (some (.object "ThreeMills$Types"))) (by decide) rfl ?_
  intro p e s m args below meth c s₁ B hml hv
  obtain ⟨rfl, hsz, hP, hK, hD0, hE⟩ := hv
  have hx := B.exec
  have hb := B.bytes
  have hr := B.returns
  have hts := atoms_spec (ws := .code yX7_types cX7_types 1 (some (.object "ThreeMills$Types")) :: bigW) B.pre
  have hown : s.vm.findClass RX7 = some m.cls := findClass_of_methodNamed B.named
  have hlocks := B.notSynchronized
  subst hsz
  have hD := hD0.self (sz := s.heap.size)
  generalize hAe : va_A [(q0, .inr (7, [.ref q1, .int 0, .ref q2, .ref q3, .ref q4, .ref q5, .ref q6, .ref q7, .ref q8, .ref q9, .int 0, .int (-1), .int 0, .int (-1), .ref q10, .ref q11]))] s.heap.size = A at hD hE ⊢
  have hN : q_N s := hE.2.2.2.1
  have hA : ∀ q : Nat, s.heap.size ≤ q → A q := fun q h => by rw [← hAe]; exact Or.inr h
  have hS : va_S A s.heap s.heap [] := va_S.rf
  have hP : va_P (dC, dI) classes [(q0, .inr (7, [.ref q1, .int 0, .ref q2, .ref q3, .ref q4, .ref q5, .ref q6, .ref q7, .ref q8, .ref q9, .int 0, .int (-1), .int 0, .int (-1), .ref q10, .ref q11]))] s.heap := hP
  have hl := lv_entry ([.ref q0]) (n := 1) (Nat.le_of_ble_eq_true rfl)
  rw [lg_entry_eq]
  generalize (lg_sl ([.ref q0]) ++ List.replicate (1 - (lg_sl ([.ref q0])).length) Slot.unset).toArray = ls at hl ⊢
  have hl : lv_has ls 1 [(0, .ref q0)] := hl
  refine lv_aload_n hx hb dX7_types_0 rfl (lv_at hl 0 rfl) ?_
  refine va_get (D := (dC, dI)) (ci := 7) (v := .ref q10) (C := RX7) (T := TX7) (N := 16) hx hb hts (fun w h => mc (in_X7 w h)) hown hK hP 0 rfl rfl 14 (by decide) (hts _ (mc m_51)) (fun _ h9 => h9) rfl dX7_types_1 ?_
  exact W.aret (v := .ref q10) hx hb hr (by first | exact Or.inl ⟨_, rfl⟩ | exact Or.inr ⟨_, rfl⟩) (Or.inr ⟨_, rfl⟩) (fun t ht hW => ⟨⟨(), q10, rfl, trivial, rfl, by rw [ht]; exact hP, va_K.moved hW.alike hK, hD⟩, hS.F ht⟩) hS.2.2 dX7_types_4
set_option maxHeartbeats 4000000 in
set_option maxRecDepth 100000 in
theorem c_X1_init_0 (l : Launch) (dC : Nat → ClassId) (dI : Nat → Nat → Nat) (q0 : Nat) (q1 : Nat) (q2 : Nat) (q3 : Nat) (q4 : Nat) (q5 : Nat) (q6 : Nat) (q7 : Nat) (q8 : Nat) (q9 : Nat) (q10 : Nat) (q11 : Nat) (q12 : Nat) (sz : Nat) : Met l yX1_init (.code yX1_init cX1_init 2 none :: bigW) { frames := 1, cells := 0, slots := 0, locals := 20 } (va_Pc [.ref q0, .ref q1] (q_In dC dI [(q0, .inr (1, [.null, .null, .null])), (q1, .inr (7, [.ref q2, .int 0, .ref q3, .ref q4, .ref q5, .ref q6, .ref q7, .ref q8, .ref q9, .ref q10, .int 0, .int (-1), .int 0, .int (-1), .ref q11, .ref q12]))] [] sz)) (va_Qv (fun _ : Unit => True) (fun _ t => va_P (dC, dI) classes [(q0, .inr (1, [.ref q1, .ref q11, .ref q12])), (q1, .inr (7, [.ref q2, .int 0, .ref q3, .ref q4, .ref q5, .ref q6, .ref q7, .ref q8, .ref q9, .ref q10, .int 0, .int (-1), .int 0, .int (-1), .ref q11, .ref q12]))] t.heap ∧ va_K (dC, dI) classes [] t ∧ va_D (va_A [(q0, .inr (1, [.null, .null, .null])), (q1, .inr (7, [.ref q2, .int 0, .ref q3, .ref q4, .ref q5, .ref q6, .ref q7, .ref q8, .ref q9, .ref q10, .int 0, .int (-1), .int 0, .int (-1), .ref q11, .ref q12]))] sz) [(q0, .inr (1, [.ref q1, .ref q11, .ref q12])), (q1, .inr (7, [.ref q2, .int 0, .ref q3, .ref q4, .ref q5, .ref q6, .ref q7, .ref q8, .ref q9, .ref q10, .int 0, .int (-1), .int 0, .int (-1), .ref q11, .ref q12]))]) (va_A [(q0, .inr (1, [.null, .null, .null])), (q1, .inr (7, [.ref q2, .int 0, .ref q3, .ref q4, .ref q5, .ref q6, .ref q7, .ref q8, .ref q9, .ref q10, .int 0, .int (-1), .int 0, .int (-1), .ref q11, .ref q12]))] sz)) 0 0 (va_A [(q0, .inr (1, [.null, .null, .null])), (q1, .inr (7, [.ref q2, .int 0, .ref q3, .ref q4, .ref q5, .ref q6, .ref q7, .ref q8, .ref q9, .ref q10, .int 0, .int (-1), .int 0, .int (-1), .ref q11, .ref q12]))] sz) := by
  refine Met.ofW (cc := cX1_init) (maxL := 2) (ret := none) (by decide) rfl ?_
  intro p e s m args below meth c s₁ B hml hv
  obtain ⟨rfl, hsz, hP, hK, hD0, hE⟩ := hv
  have hx := B.exec
  have hb := B.bytes
  have hr := B.returns
  have hts := atoms_spec (ws := .code yX1_init cX1_init 2 none :: bigW) B.pre
  have hown : s.vm.findClass RX1 = some m.cls := findClass_of_methodNamed B.named
  have hlocks := B.notSynchronized
  have hin : meth.name = "<init>" := (name_of_methodNamed B.named B.method).1
  subst hsz
  have hD := hD0.self (sz := s.heap.size)
  generalize hAe : va_A [(q0, .inr (1, [.null, .null, .null])), (q1, .inr (7, [.ref q2, .int 0, .ref q3, .ref q4, .ref q5, .ref q6, .ref q7, .ref q8, .ref q9, .ref q10, .int 0, .int (-1), .int 0, .int (-1), .ref q11, .ref q12]))] s.heap.size = A at hD hE ⊢
  have hN : q_N s := hE.2.2.2.1
  have hA : ∀ q : Nat, s.heap.size ≤ q → A q := fun q h => by rw [← hAe]; exact Or.inr h
  have hS : va_S A s.heap s.heap [] := va_S.rf
  have hP : va_P (dC, dI) classes [(q0, .inr (1, [.null, .null, .null])), (q1, .inr (7, [.ref q2, .int 0, .ref q3, .ref q4, .ref q5, .ref q6, .ref q7, .ref q8, .ref q9, .ref q10, .int 0, .int (-1), .int 0, .int (-1), .ref q11, .ref q12]))] s.heap := hP
  have hl := lv_entry ([.ref q0, .ref q1]) (n := 2) (Nat.le_of_ble_eq_true rfl)
  rw [lg_entry_eq]
  generalize (lg_sl ([.ref q0, .ref q1]) ++ List.replicate (2 - (lg_sl ([.ref q0, .ref q1])).length) Slot.unset).toArray = ls at hl ⊢
  have hl : lv_has ls 2 [(0, .ref q0), (1, .ref q1)] := hl
  refine lv_aload_n hx hb dX1_init_0 rfl (lv_at hl 0 rfl) ?_
  refine W.objInit hx hb hown (hts _ (mc m_124)) (hts _ (mc m_1)) (hts _ (mc m_2)) rfl (by rw [hml]; exact hl.1) rfl dX1_init_1 (Nat.le_of_ble_eq_true rfl) (Nat.le_of_ble_eq_true rfl) ?_
  refine W.eq (g2 := F0 m 4 ls []) rfl ?_
  refine lv_aload_n hx hb dX1_init_4 rfl (lv_at hl 0 rfl) ?_
  refine lv_aload_n hx hb dX1_init_5 rfl (lv_at hl 1 rfl) ?_
  refine va_put (D := (dC, dI)) (ci := 1) (v := .ref q1) (ty := .object "ThreeMills$Program") (C := RX1) (T := TX1) (N := 3) hx hb hts (fun w h => mc (in_X1 w h)) tyX1 tyX1_ok nmX1 hown hK hP hD hS 0 rfl rfl 0 (by decide) (hts _ (mc m_125)) (fun _ h9 => h9) rfl (by decide +kernel) (by first | rfl | decide) (by first | rfl | decide) (Nat.le_of_ble_eq_true rfl) dX1_init_6 (fun H locs hP hD hS => ?_)
  have hP : va_P (dC, dI) classes [(q0, .inr (1, [.ref q1, .null, .null])), (q1, .inr (7, [.ref q2, .int 0, .ref q3, .ref q4, .ref q5, .ref q6, .ref q7, .ref q8, .ref q9, .ref q10, .int 0, .int (-1), .int 0, .int (-1), .ref q11, .ref q12]))] H := hP
  have hD : va_D A [(q0, .inr (1, [.ref q1, .null, .null])), (q1, .inr (7, [.ref q2, .int 0, .ref q3, .ref q4, .ref q5, .ref q6, .ref q7, .ref q8, .ref q9, .ref q10, .int 0, .int (-1), .int 0, .int (-1), .ref q11, .ref q12]))] := hD
  refine lv_aload_n hx hb dX1_init_9 rfl (lv_at hl 0 rfl) ?_
  refine lv_aload_n hx hb dX1_init_10 rfl (lv_at hl 1 rfl) ?_
  have hPc := hP.sub (ws' := [(q1, .inr (7, [.ref q2, .int 0, .ref q3, .ref q4, .ref q5, .ref q6, .ref q7, .ref q8, .ref q9, .ref q10, .int 0, .int (-1), .int 0, .int (-1), .ref q11, .ref q12]))]) [1] rfl
  have hDc := hD.sub (ws' := [(q1, .inr (7, [.ref q2, .int 0, .ref q3, .ref q4, .ref q5, .ref q6, .ref q7, .ref q8, .ref q9, .ref q10, .int 0, .int (-1), .int 0, .int (-1), .ref q11, .ref q12]))]) [1] (by decide) rfl
  have hKc := hK.sub (tys' := []) [] rfl
  have hFc := va_free (wc := [(q1, .inr (7, [.ref q2, .int 0, .ref q3, .ref q4, .ref q5, .ref q6, .ref q7, .ref q8, .ref q9, .ref q10, .int 0, .int (-1), .int 0, .int (-1), .ref q11, .ref q12]))]) hD hS hA [1] rfl
  refine va_callr (va_runV (As := []) (rest := [.ref q0]) ⟨hx, hb, hml, hown, hts⟩ (c_X7_types_0 l dC dI q1 q2 q3 q4 q5 q6 q7 q8 q9 q10 q11 q12 H.size) (cwV 0 hts (gV m_127 m_128 m_129 m_18 m_126) rfl rfl rfl (by decide +kernel) ⟨Nat.le_of_ble_eq_true rfl, Nat.le_of_ble_eq_true rfl⟩) ⟨q_bl, va_recv hKc hPc (ci := 7) (q0 := 0) rfl rfl, q_pre hPc hKc hDc hE hS hFc⟩ rfl rfl hl.1 rfl (lv_room (Nat.le_of_ble_eq_true rfl)) dX1_init_11 ⟨Nat.le_of_ble_eq_true rfl, Nat.le_of_ble_eq_true rfl⟩) hS (fun q _ h => hFc q h) hFc (fun u ra9 t H1 locs ht hvm hw hB hz1 hk1 hS => ?_)
  obtain ⟨hra, hP1, hK1, hD1⟩ := hB
  rw [ht] at hP1
  have hK1 := va_K.moved hvm.symm hK1
  obtain ⟨hP, hD⟩ := va_join (wr := [(q0, .inr (1, [.ref q1, .null, .null]))]) (w1 := [(q1, .inr (7, [.ref q2, .int 0, .ref q3, .ref q4, .ref q5, .ref q6, .ref q7, .ref q8, .ref q9, .ref q10, .int 0, .int (-1), .int 0, .int (-1), .ref q11, .ref q12]))]) hP hD [1] [0] rfl rfl (by decide) (by decide) hk1 hFc hP1 hD1
  have hK := (hK.sub (tys' := []) [] rfl).app hK1
  generalize H1 = H at hP hS ⊢
  have hP : va_P (dC, dI) classes [(q0, .inr (1, [.ref q1, .null, .null])), (q1, .inr (7, [.ref q2, .int 0, .ref q3, .ref q4, .ref q5, .ref q6, .ref q7, .ref q8, .ref q9, .ref q10, .int 0, .int (-1), .int 0, .int (-1), .ref q11, .ref q12]))] H := hP
  have hD : va_D A [(q0, .inr (1, [.ref q1, .null, .null])), (q1, .inr (7, [.ref q2, .int 0, .ref q3, .ref q4, .ref q5, .ref q6, .ref q7, .ref q8, .ref q9, .ref q10, .int 0, .int (-1), .int 0, .int (-1), .ref q11, .ref q12]))] := hD
  have hK : va_K (dC, dI) classes [] s := hK
  rw [hra]
  refine va_put (D := (dC, dI)) (ci := 1) (v := .ref q11) (ty := .object "ThreeMills$Types") (C := RX1) (T := TX1) (N := 3) hx hb hts (fun w h => mc (in_X1 w h)) tyX1 tyX1_ok nmX1 hown hK hP hD hS 0 rfl rfl 1 (by decide) (hts _ (mc m_130)) (fun _ h9 => h9) rfl (by decide +kernel) (by first | rfl | decide) (by first | rfl | decide) (Nat.le_of_ble_eq_true rfl) dX1_init_14 (fun H locs hP hD hS => ?_)
  have hP : va_P (dC, dI) classes [(q0, .inr (1, [.ref q1, .ref q11, .null])), (q1, .inr (7, [.ref q2, .int 0, .ref q3, .ref q4, .ref q5, .ref q6, .ref q7, .ref q8, .ref q9, .ref q10, .int 0, .int (-1), .int 0, .int (-1), .ref q11, .ref q12]))] H := hP
  have hD : va_D A [(q0, .inr (1, [.ref q1, .ref q11, .null])), (q1, .inr (7, [.ref q2, .int 0, .ref q3, .ref q4, .ref q5, .ref q6, .ref q7, .ref q8, .ref q9, .ref q10, .int 0, .int (-1), .int 0, .int (-1), .ref q11, .ref q12]))] := hD
  refine lv_aload_n hx hb dX1_init_17 rfl (lv_at hl 0 rfl) ?_
  refine lv_aload_n hx hb dX1_init_18 rfl (lv_at hl 1 rfl) ?_
  have hPc := hP.sub (ws' := [(q1, .inr (7, [.ref q2, .int 0, .ref q3, .ref q4, .ref q5, .ref q6, .ref q7, .ref q8, .ref q9, .ref q10, .int 0, .int (-1), .int 0, .int (-1), .ref q11, .ref q12]))]) [1] rfl
  have hDc := hD.sub (ws' := [(q1, .inr (7, [.ref q2, .int 0, .ref q3, .ref q4, .ref q5, .ref q6, .ref q7, .ref q8, .ref q9, .ref q10, .int 0, .int (-1), .int 0, .int (-1), .ref q11, .ref q12]))]) [1] (by decide) rfl
  have hKc := hK.sub (tys' := []) [] rfl
  have hFc := va_free (wc := [(q1, .inr (7, [.ref q2, .int 0, .ref q3, .ref q4, .ref q5, .ref q6, .ref q7, .ref q8, .ref q9, .ref q10, .int 0, .int (-1), .int 0, .int (-1), .ref q11, .ref q12]))]) hD hS hA [1] rfl
  refine va_callr (va_runV (As := []) (rest := [.ref q0]) ⟨hx, hb, hml, hown, hts⟩ (c_X7_bindings_0 l dC dI q1 q2 q3 q4 q5 q6 q7 q8 q9 q10 q11 q12 H.size) (cwV 0 hts (gV m_131 m_94 m_95 m_18 m_92) rfl rfl rfl (by decide +kernel) ⟨Nat.le_of_ble_eq_true rfl, Nat.le_of_ble_eq_true rfl⟩) ⟨q_bl, va_recv hKc hPc (ci := 7) (q0 := 0) rfl rfl, q_pre hPc hKc hDc hE hS hFc⟩ rfl rfl hl.1 rfl (lv_room (Nat.le_of_ble_eq_true rfl)) dX1_init_19 ⟨Nat.le_of_ble_eq_true rfl, Nat.le_of_ble_eq_true rfl⟩) hS (fun q _ h => hFc q h) hFc (fun u ra9 t H1 locs ht hvm hw hB hz1 hk1 hS => ?_)
  obtain ⟨hra, hP1, hK1, hD1⟩ := hB
  rw [ht] at hP1
  have hK1 := va_K.moved hvm.symm hK1
  obtain ⟨hP, hD⟩ := va_join (wr := [(q0, .inr (1, [.ref q1, .ref q11, .null]))]) (w1 := [(q1, .inr (7, [.ref q2, .int 0, .ref q3, .ref q4, .ref q5, .ref q6, .ref q7, .ref q8, .ref q9, .ref q10, .int 0, .int (-1), .int 0, .int (-1), .ref q11, .ref q12]))]) hP hD [1] [0] rfl rfl (by decide) (by decide) hk1 hFc hP1 hD1
  have hK := (hK.sub (tys' := []) [] rfl).app hK1
  generalize H1 = H at hP hS ⊢
  have hP : va_P (dC, dI) classes [(q0, .inr (1, [.ref q1, .ref q11, .null])), (q1, .inr (7, [.ref q2, .int 0, .ref q3, .ref q4, .ref q5, .ref q6, .ref q7, .ref q8, .ref q9, .ref q10, .int 0, .int (-1), .int 0, .int (-1), .ref q11, .ref q12]))] H := hP
  have hD : va_D A [(q0, .inr (1, [.ref q1, .ref q11, .null])), (q1, .inr (7, [.ref q2, .int 0, .ref q3, .ref q4, .ref q5, .ref q6, .ref q7, .ref q8, .ref q9, .ref q10, .int 0, .int (-1), .int 0, .int (-1), .ref q11, .ref q12]))] := hD
  have hK : va_K (dC, dI) classes [] s := hK
  rw [hra]
  refine va_put (D := (dC, dI)) (ci := 1) (v := .ref q12) (ty := .object "ThreeMills$Bindings") (C := RX1) (T := TX1) (N := 3) hx hb hts (fun w h => mc (in_X1 w h)) tyX1 tyX1_ok nmX1 hown hK hP hD hS 0 rfl rfl 2 (by decide) (hts _ (mc m_132)) (fun _ h9 => h9) rfl (by decide +kernel) (by first | rfl | decide) (by first | rfl | decide) (Nat.le_of_ble_eq_true rfl) dX1_init_22 (fun H locs hP hD hS => ?_)
  have hP : va_P (dC, dI) classes [(q0, .inr (1, [.ref q1, .ref q11, .ref q12])), (q1, .inr (7, [.ref q2, .int 0, .ref q3, .ref q4, .ref q5, .ref q6, .ref q7, .ref q8, .ref q9, .ref q10, .int 0, .int (-1), .int 0, .int (-1), .ref q11, .ref q12]))] H := hP
  have hD : va_D A [(q0, .inr (1, [.ref q1, .ref q11, .ref q12])), (q1, .inr (7, [.ref q2, .int 0, .ref q3, .ref q4, .ref q5, .ref q6, .ref q7, .ref q8, .ref q9, .ref q10, .int 0, .int (-1), .int 0, .int (-1), .ref q11, .ref q12]))] := hD
  exact W.vret hx hb hr (fun t ht hW => ⟨⟨(), rfl, trivial, by rw [ht]; exact hP, va_K.moved hW.alike hK, hD⟩, hS.F ht⟩) hS.2.2 dX1_init_25
set_option maxHeartbeats 4000000 in
set_option maxRecDepth 100000 in
theorem c_X5_init_0 (l : Launch) (dC : Nat → ClassId) (dI : Nat → Nat → Nat) (q0 : Nat) (sz : Nat) : Met l yX5_init (.code yX5_init cX5_init 1 none :: bigW) { frames := 1, cells := 1, slots := 100, locals := 20 } (va_Pc [.ref q0] (q_In dC dI [(q0, .inr (5, [.null]))] [] sz)) (va_Qv (fun _ : Unit => True) (fun _ t => ∃ (q101 : Nat), va_P (dC, dI) classes [(q0, .inr (5, [.ref q101]))] t.heap ∧ va_K (dC, dI) classes [] t ∧ va_D (va_A [(q0, .inr (5, [.null]))] sz) [(q0, .inr (5, [.ref q101]))]) (va_A [(q0, .inr (5, [.null]))] sz)) 1 100 (va_A [(q0, .inr (5, [.null]))] sz) := by
  refine Met.ofW (cc := cX5_init) (maxL := 1) (ret := none) (by decide) rfl ?_
  intro p e s m args below meth c s₁ B hml hv
  obtain ⟨rfl, hsz, hP, hK, hD0, hE⟩ := hv
  have hx := B.exec
  have hb := B.bytes
  have hr := B.returns
  have hts := atoms_spec (ws := .code yX5_init cX5_init 1 none :: bigW) B.pre
  have hown : s.vm.findClass RX5 = some m.cls := findClass_of_methodNamed B.named
  have hlocks := B.notSynchronized
  have hin : meth.name = "<init>" := (name_of_methodNamed B.named B.method).1
  subst hsz
  have hD := hD0.self (sz := s.heap.size)
  generalize hAe : va_A [(q0, .inr (5, [.null]))] s.heap.size = A at hD hE ⊢
  have hN : q_N s := hE.2.2.2.1
  have hA : ∀ q : Nat, s.heap.size ≤ q → A q := fun q h => by rw [← hAe]; exact Or.inr h
  have hS : va_S A s.heap s.heap [] := va_S.rf
  have hP : va_P (dC, dI) classes [(q0, .inr (5, [.null]))] s.heap := hP
  have hl := lv_entry ([.ref q0]) (n := 1) (Nat.le_of_ble_eq_true rfl)
  rw [lg_entry_eq]
  generalize (lg_sl ([.ref q0]) ++ List.replicate (1 - (lg_sl ([.ref q0])).length) Slot.unset).toArray = ls at hl ⊢
  have hl : lv_has ls 1 [(0, .ref q0)] := hl
  refine lv_aload_n hx hb dX5_init_0 rfl (lv_at hl 0 rfl) ?_
  refine W.objInit hx hb hown (hts _ (mc m_140)) (hts _ (mc m_1)) (hts _ (mc m_2)) rfl (by rw [hml]; exact hl.1) rfl dX5_init_1 (Nat.le_of_ble_eq_true rfl) (Nat.le_of_ble_eq_true rfl) ?_
  refine W.eq (g2 := F0 m 4 ls []) rfl ?_
  refine lv_aload_n hx hb dX5_init_4 rfl (lv_at hl 0 rfl) ?_
  refine lv_bipush (v := 100) hx hb dX5_init_5 (by decide) ?_
  refine va_newa (atype := .int) (ty := .int) (N' := 100) (a0 := (100, .inl (fun _ => 0))) hx hb (hts _ (mc m_22)) rfl hK hP hD hS hA (fun _ => rfl) (by decide) (by decide) (by decide) (Nat.le_of_ble_eq_true rfl) (Nat.le_of_ble_eq_true rfl) dX5_init_7 (fun q101 k102 H hK hP hD hS => ?_)
  have hP : va_P (dC, dI) classes [(q0, .inr (5, [.null])), (q101, .inl (k102, 100, .inl (fun _ => 0)))] H := hP
  have hD : va_D A [(q0, .inr (5, [.null])), (q101, .inl (k102, 100, .inl (fun _ => 0)))] := hD
  have hK : va_K (dC, dI) classes [(k102, .int)] s := hK
  refine W.widen (k := 1) (n := 100) (Nat.le_of_ble_eq_true rfl) (Nat.le_of_ble_eq_true rfl) ?_
  refine va_putF (D := (dC, dI)) (ci := 5) (v := .ref q101) (ty := .array .int) (C := RX5) (T := TX5) (N := 1) hx hb hts (fun w h => mc (in_X5 w h)) tyX5 tyX5_ok nmX5 hown hK hP hD hS 0 rfl rfl 0 (by decide) (hts _ (mc m_141)) (fun _ h9 => h9) rfl hin rfl (by decide +kernel) (by first | rfl | decide) (by first | rfl | decide) (Nat.le_of_ble_eq_true rfl) dX5_init_9 (fun H locs hP hD hS => ?_)
  have hP : va_P (dC, dI) classes [(q0, .inr (5, [.ref q101])), (q101, .inl (k102, 100, .inl (fun _ => 0)))] H := hP
  have hD : va_D A [(q0, .inr (5, [.ref q101])), (q101, .inl (k102, 100, .inl (fun _ => 0)))] := hD
  have hP := hP.sub (ws' := [(q0, .inr (5, [.ref q101]))]) [0] rfl
  have hD := hD.sub (ws' := [(q0, .inr (5, [.ref q101]))]) [0] (by decide) rfl
  have hK := hK.sub (tys' := []) [] rfl
  exact W.vret hx hb hr (fun t ht hW => ⟨⟨(), rfl, trivial, q101, by rw [ht]; exact hP, va_K.moved hW.alike hK, hD⟩, hS.F ht⟩) hS.2.2 dX5_init_12
set_option maxHeartbeats 4000000 in
set_option maxRecDepth 100000 in
theorem c_X9_init_0 (l : Launch) (dC : Nat → ClassId) (dI : Nat → Nat → Nat) (q0 : Nat) (q1 : Nat) (q2 : Nat) (q3 : Nat) (q4 : Nat) (q5 : Nat) (q6 : Nat) (q7 : Nat) (q8 : Nat) (q9 : Nat) (q10 : Nat) (q11 : Nat) (q12 : Nat) (q13 : Nat) (sz : Nat) : Met l yX9_init (.code yX9_init cX9_init 3 none :: bigW) { frames := 1, cells := 0, slots := 0, locals := 20 } (va_Pc [.ref q0, .ref q1, .ref q2] (q_In dC dI [(q0, .inr (9, [.null, .null, .null, .null, .int 0, .int 0])), (q1, .inr (7, [.ref q3, .int 0, .ref q4, .ref q5, .ref q6, .ref q7, .ref q8, .ref q9, .ref q10, .ref q11, .int 0, .int (-1), .int 0, .int (-1), .ref q12, .ref q13]))] [] sz)) (va_Qv (fun _ : Unit => True) (fun _ t => va_P (dC, dI) classes [(q0, .inr (9, [.ref q2, .ref q1, .ref q12, .ref q13, .int 0, .int (-1)])), (q1, .inr (7, [.ref q3, .int 0, .ref q4, .ref q5, .ref q6, .ref q7, .ref q8, .ref q9, .ref q10, .ref q11, .int 0, .int (-1), .int 0, .int (-1), .ref q12, .ref q13]))] t.heap ∧ va_K (dC, dI) classes [] t ∧ va_D (va_A [(q0, .inr (9, [.null, .null, .null, .null, .int 0, .int 0])), (q1, .inr (7, [.ref q3, .int 0, .ref q4, .ref q5, .ref q6, .ref q7, .ref q8, .ref q9, .ref q10, .ref q11, .int 0, .int (-1), .int 0, .int (-1), .ref q12, .ref q13]))] sz) [(q0, .inr (9, [.ref q2, .ref q1, .ref q12, .ref q13, .int 0, .int (-1)])), (q1, .inr (7, [.ref q3, .int 0, .ref q4, .ref q5, .ref q6, .ref q7, .ref q8, .ref q9, .ref q10, .ref q11, .int 0, .int (-1), .int 0, .int (-1), .ref q12, .ref q13]))]) (va_A [(q0, .inr (9, [.null, .null, .null, .null, .int 0, .int 0])), (q1, .inr (7, [.ref q3, .int 0, .ref q4, .ref q5, .ref q6, .ref q7, .ref q8, .ref q9, .ref q10, .ref q11, .int 0, .int (-1), .int 0, .int (-1), .ref q12, .ref q13]))] sz)) 0 0 (va_A [(q0, .inr (9, [.null, .null, .null, .null, .int 0, .int 0])), (q1, .inr (7, [.ref q3, .int 0, .ref q4, .ref q5, .ref q6, .ref q7, .ref q8, .ref q9, .ref q10, .ref q11, .int 0, .int (-1), .int 0, .int (-1), .ref q12, .ref q13]))] sz) := by
  refine Met.ofW (cc := cX9_init) (maxL := 3) (ret := none) (by decide) rfl ?_
  intro p e s m args below meth c s₁ B hml hv
  obtain ⟨rfl, hsz, hP, hK, hD0, hE⟩ := hv
  have hx := B.exec
  have hb := B.bytes
  have hr := B.returns
  have hts := atoms_spec (ws := .code yX9_init cX9_init 3 none :: bigW) B.pre
  have hown : s.vm.findClass RX9 = some m.cls := findClass_of_methodNamed B.named
  have hlocks := B.notSynchronized
  have hin : meth.name = "<init>" := (name_of_methodNamed B.named B.method).1
  subst hsz
  have hD := hD0.self (sz := s.heap.size)
  generalize hAe : va_A [(q0, .inr (9, [.null, .null, .null, .null, .int 0, .int 0])), (q1, .inr (7, [.ref q3, .int 0, .ref q4, .ref q5, .ref q6, .ref q7, .ref q8, .ref q9, .ref q10, .ref q11, .int 0, .int (-1), .int 0, .int (-1), .ref q12, .ref q13]))] s.heap.size = A at hD hE ⊢
  have hN : q_N s := hE.2.2.2.1
  have hA : ∀ q : Nat, s.heap.size ≤ q → A q := fun q h => by rw [← hAe]; exact Or.inr h
  have hS : va_S A s.heap s.heap [] := va_S.rf
  have hP : va_P (dC, dI) classes [(q0, .inr (9, [.null, .null, .null, .null, .int 0, .int 0])), (q1, .inr (7, [.ref q3, .int 0, .ref q4, .ref q5, .ref q6, .ref q7, .ref q8, .ref q9, .ref q10, .ref q11, .int 0, .int (-1), .int 0, .int (-1), .ref q12, .ref q13]))] s.heap := hP
  have hl := lv_entry ([.ref q0, .ref q1, .ref q2]) (n := 3) (Nat.le_of_ble_eq_true rfl)
  rw [lg_entry_eq]
  generalize (lg_sl ([.ref q0, .ref q1, .ref q2]) ++ List.replicate (3 - (lg_sl ([.ref q0, .ref q1, .ref q2])).length) Slot.unset).toArray = ls at hl ⊢
  have hl : lv_has ls 3 [(0, .ref q0), (1, .ref q1), (2, .ref q2)] := hl
  refine lv_aload_n hx hb dX9_init_0 rfl (lv_at hl 0 rfl) ?_
  refine W.objInit hx hb hown (hts _ (mc m_149)) (hts _ (mc m_1)) (hts _ (mc m_2)) rfl (by rw [hml]; exact hl.1) rfl dX9_init_1 (Nat.le_of_ble_eq_true rfl) (Nat.le_of_ble_eq_true rfl) ?_
  refine W.eq (g2 := F0 m 4 ls []) rfl ?_
  refine lv_aload_n hx hb dX9_init_4 rfl (lv_at hl 0 rfl) ?_
  refine lv_aload_n hx hb dX9_init_5 rfl (lv_at hl 2 rfl) ?_
  refine va_putF (D := (dC, dI)) (ci := 9) (v := .ref q2) (ty := .object "ThreeMills$Ink") (C := RX9) (T := TX9) (N := 6) hx hb hts (fun w h => mc (in_X9 w h)) tyX9 tyX9_ok nmX9 hown hK hP hD hS 0 rfl rfl 0 (by decide) (hts _ (mc m_150)) (fun _ h9 => h9) rfl hin rfl (by decide +kernel) (by first | rfl | decide) (by first | rfl | decide) (Nat.le_of_ble_eq_true rfl) dX9_init_6 (fun H locs hP hD hS => ?_)
  have hP : va_P (dC, dI) classes [(q0, .inr (9, [.ref q2, .null, .null, .null, .int 0, .int 0])), (q1, .inr (7, [.ref q3, .int 0, .ref q4, .ref q5, .ref q6, .ref q7, .ref q8, .ref q9, .ref q10, .ref q11, .int 0, .int (-1), .int 0, .int (-1), .ref q12, .ref q13]))] H := hP
  have hD : va_D A [(q0, .inr (9, [.ref q2, .null, .null, .null, .int 0, .int 0])), (q1, .inr (7, [.ref q3, .int 0, .ref q4, .ref q5, .ref q6, .ref q7, .ref q8, .ref q9, .ref q10, .ref q11, .int 0, .int (-1), .int 0, .int (-1), .ref q12, .ref q13]))] := hD
  refine lv_aload_n hx hb dX9_init_9 rfl (lv_at hl 0 rfl) ?_
  refine lv_aload_n hx hb dX9_init_10 rfl (lv_at hl 1 rfl) ?_
  refine va_put (D := (dC, dI)) (ci := 9) (v := .ref q1) (ty := .object "ThreeMills$Program") (C := RX9) (T := TX9) (N := 6) hx hb hts (fun w h => mc (in_X9 w h)) tyX9 tyX9_ok nmX9 hown hK hP hD hS 0 rfl rfl 1 (by decide) (hts _ (mc m_151)) (fun _ h9 => h9) rfl (by decide +kernel) (by first | rfl | decide) (by first | rfl | decide) (Nat.le_of_ble_eq_true rfl) dX9_init_11 (fun H locs hP hD hS => ?_)
  have hP : va_P (dC, dI) classes [(q0, .inr (9, [.ref q2, .ref q1, .null, .null, .int 0, .int 0])), (q1, .inr (7, [.ref q3, .int 0, .ref q4, .ref q5, .ref q6, .ref q7, .ref q8, .ref q9, .ref q10, .ref q11, .int 0, .int (-1), .int 0, .int (-1), .ref q12, .ref q13]))] H := hP
  have hD : va_D A [(q0, .inr (9, [.ref q2, .ref q1, .null, .null, .int 0, .int 0])), (q1, .inr (7, [.ref q3, .int 0, .ref q4, .ref q5, .ref q6, .ref q7, .ref q8, .ref q9, .ref q10, .ref q11, .int 0, .int (-1), .int 0, .int (-1), .ref q12, .ref q13]))] := hD
  refine lv_aload_n hx hb dX9_init_14 rfl (lv_at hl 0 rfl) ?_
  refine lv_aload_n hx hb dX9_init_15 rfl (lv_at hl 1 rfl) ?_
  have hPc := hP.sub (ws' := [(q1, .inr (7, [.ref q3, .int 0, .ref q4, .ref q5, .ref q6, .ref q7, .ref q8, .ref q9, .ref q10, .ref q11, .int 0, .int (-1), .int 0, .int (-1), .ref q12, .ref q13]))]) [1] rfl
  have hDc := hD.sub (ws' := [(q1, .inr (7, [.ref q3, .int 0, .ref q4, .ref q5, .ref q6, .ref q7, .ref q8, .ref q9, .ref q10, .ref q11, .int 0, .int (-1), .int 0, .int (-1), .ref q12, .ref q13]))]) [1] (by decide) rfl
  have hKc := hK.sub (tys' := []) [] rfl
  have hFc := va_free (wc := [(q1, .inr (7, [.ref q3, .int 0, .ref q4, .ref q5, .ref q6, .ref q7, .ref q8, .ref q9, .ref q10, .ref q11, .int 0, .int (-1), .int 0, .int (-1), .ref q12, .ref q13]))]) hD hS hA [1] rfl
  refine va_callr (va_runV (As := []) (rest := [.ref q0]) ⟨hx, hb, hml, hown, hts⟩ (c_X7_types_0 l dC dI q1 q3 q4 q5 q6 q7 q8 q9 q10 q11 q12 q13 H.size) (cwV 0 hts (gV m_152 m_128 m_129 m_18 m_126) rfl rfl rfl (by decide +kernel) ⟨Nat.le_of_ble_eq_true rfl, Nat.le_of_ble_eq_true rfl⟩) ⟨q_bl, va_recv hKc hPc (ci := 7) (q0 := 0) rfl rfl, q_pre hPc hKc hDc hE hS hFc⟩ rfl rfl hl.1 rfl (lv_room (Nat.le_of_ble_eq_true rfl)) dX9_init_16 ⟨Nat.le_of_ble_eq_true rfl, Nat.le_of_ble_eq_true rfl⟩) hS (fun q _ h => hFc q h) hFc (fun u ra9 t H1 locs ht hvm hw hB hz1 hk1 hS => ?_)
  obtain ⟨hra, hP1, hK1, hD1⟩ := hB
  rw [ht] at hP1
  have hK1 := va_K.moved hvm.symm hK1
  obtain ⟨hP, hD⟩ := va_join (wr := [(q0, .inr (9, [.ref q2, .ref q1, .null, .null, .int 0, .int 0]))]) (w1 := [(q1, .inr (7, [.ref q3, .int 0, .ref q4, .ref q5, .ref q6, .ref q7, .ref q8, .ref q9, .ref q10, .ref q11, .int 0, .int (-1), .int 0, .int (-1), .ref q12, .ref q13]))]) hP hD [1] [0] rfl rfl (by decide) (by decide) hk1 hFc hP1 hD1
  have hK := (hK.sub (tys' := []) [] rfl).app hK1
  generalize H1 = H at hP hS ⊢
  have hP : va_P (dC, dI) classes [(q0, .inr (9, [.ref q2, .ref q1, .null, .null, .int 0, .int 0])), (q1, .inr (7, [.ref q3, .int 0, .ref q4, .ref q5, .ref q6, .ref q7, .ref q8, .ref q9, .ref q10, .ref q11, .int 0, .int (-1), .int 0, .int (-1), .ref q12, .ref q13]))] H := hP
  have hD : va_D A [(q0, .inr (9, [.ref q2, .ref q1, .null, .null, .int 0, .int 0])), (q1, .inr (7, [.ref q3, .int 0, .ref q4, .ref q5, .ref q6, .ref q7, .ref q8, .ref q9, .ref q10, .ref q11, .int 0, .int (-1), .int 0, .int (-1), .ref q12, .ref q13]))] := hD
  have hK : va_K (dC, dI) classes [] s := hK
  rw [hra]
  refine va_put (D := (dC, dI)) (ci := 9) (v := .ref q12) (ty := .object "ThreeMills$Types") (C := RX9) (T := TX9) (N := 6) hx hb hts (fun w h => mc (in_X9 w h)) tyX9 tyX9_ok nmX9 hown hK hP hD hS 0 rfl rfl 2 (by decide) (hts _ (mc m_153)) (fun _ h9 => h9) rfl (by decide +kernel) (by first | rfl | decide) (by first | rfl | decide) (Nat.le_of_ble_eq_true rfl) dX9_init_19 (fun H locs hP hD hS => ?_)
  have hP : va_P (dC, dI) classes [(q0, .inr (9, [.ref q2, .ref q1, .ref q12, .null, .int 0, .int 0])), (q1, .inr (7, [.ref q3, .int 0, .ref q4, .ref q5, .ref q6, .ref q7, .ref q8, .ref q9, .ref q10, .ref q11, .int 0, .int (-1), .int 0, .int (-1), .ref q12, .ref q13]))] H := hP
  have hD : va_D A [(q0, .inr (9, [.ref q2, .ref q1, .ref q12, .null, .int 0, .int 0])), (q1, .inr (7, [.ref q3, .int 0, .ref q4, .ref q5, .ref q6, .ref q7, .ref q8, .ref q9, .ref q10, .ref q11, .int 0, .int (-1), .int 0, .int (-1), .ref q12, .ref q13]))] := hD
  refine lv_aload_n hx hb dX9_init_22 rfl (lv_at hl 0 rfl) ?_
  refine lv_aload_n hx hb dX9_init_23 rfl (lv_at hl 1 rfl) ?_
  have hPc := hP.sub (ws' := [(q1, .inr (7, [.ref q3, .int 0, .ref q4, .ref q5, .ref q6, .ref q7, .ref q8, .ref q9, .ref q10, .ref q11, .int 0, .int (-1), .int 0, .int (-1), .ref q12, .ref q13]))]) [1] rfl
  have hDc := hD.sub (ws' := [(q1, .inr (7, [.ref q3, .int 0, .ref q4, .ref q5, .ref q6, .ref q7, .ref q8, .ref q9, .ref q10, .ref q11, .int 0, .int (-1), .int 0, .int (-1), .ref q12, .ref q13]))]) [1] (by decide) rfl
  have hKc := hK.sub (tys' := []) [] rfl
  have hFc := va_free (wc := [(q1, .inr (7, [.ref q3, .int 0, .ref q4, .ref q5, .ref q6, .ref q7, .ref q8, .ref q9, .ref q10, .ref q11, .int 0, .int (-1), .int 0, .int (-1), .ref q12, .ref q13]))]) hD hS hA [1] rfl
  refine va_callr (va_runV (As := []) (rest := [.ref q0]) ⟨hx, hb, hml, hown, hts⟩ (c_X7_bindings_0 l dC dI q1 q3 q4 q5 q6 q7 q8 q9 q10 q11 q12 q13 H.size) (cwV 0 hts (gV m_154 m_94 m_95 m_18 m_92) rfl rfl rfl (by decide +kernel) ⟨Nat.le_of_ble_eq_true rfl, Nat.le_of_ble_eq_true rfl⟩) ⟨q_bl, va_recv hKc hPc (ci := 7) (q0 := 0) rfl rfl, q_pre hPc hKc hDc hE hS hFc⟩ rfl rfl hl.1 rfl (lv_room (Nat.le_of_ble_eq_true rfl)) dX9_init_24 ⟨Nat.le_of_ble_eq_true rfl, Nat.le_of_ble_eq_true rfl⟩) hS (fun q _ h => hFc q h) hFc (fun u ra9 t H1 locs ht hvm hw hB hz1 hk1 hS => ?_)
  obtain ⟨hra, hP1, hK1, hD1⟩ := hB
  rw [ht] at hP1
  have hK1 := va_K.moved hvm.symm hK1
  obtain ⟨hP, hD⟩ := va_join (wr := [(q0, .inr (9, [.ref q2, .ref q1, .ref q12, .null, .int 0, .int 0]))]) (w1 := [(q1, .inr (7, [.ref q3, .int 0, .ref q4, .ref q5, .ref q6, .ref q7, .ref q8, .ref q9, .ref q10, .ref q11, .int 0, .int (-1), .int 0, .int (-1), .ref q12, .ref q13]))]) hP hD [1] [0] rfl rfl (by decide) (by decide) hk1 hFc hP1 hD1
  have hK := (hK.sub (tys' := []) [] rfl).app hK1
  generalize H1 = H at hP hS ⊢
  have hP : va_P (dC, dI) classes [(q0, .inr (9, [.ref q2, .ref q1, .ref q12, .null, .int 0, .int 0])), (q1, .inr (7, [.ref q3, .int 0, .ref q4, .ref q5, .ref q6, .ref q7, .ref q8, .ref q9, .ref q10, .ref q11, .int 0, .int (-1), .int 0, .int (-1), .ref q12, .ref q13]))] H := hP
  have hD : va_D A [(q0, .inr (9, [.ref q2, .ref q1, .ref q12, .null, .int 0, .int 0])), (q1, .inr (7, [.ref q3, .int 0, .ref q4, .ref q5, .ref q6, .ref q7, .ref q8, .ref q9, .ref q10, .ref q11, .int 0, .int (-1), .int 0, .int (-1), .ref q12, .ref q13]))] := hD
  have hK : va_K (dC, dI) classes [] s := hK
  rw [hra]
  refine va_put (D := (dC, dI)) (ci := 9) (v := .ref q13) (ty := .object "ThreeMills$Bindings") (C := RX9) (T := TX9) (N := 6) hx hb hts (fun w h => mc (in_X9 w h)) tyX9 tyX9_ok nmX9 hown hK hP hD hS 0 rfl rfl 3 (by decide) (hts _ (mc m_155)) (fun _ h9 => h9) rfl (by decide +kernel) (by first | rfl | decide) (by first | rfl | decide) (Nat.le_of_ble_eq_true rfl) dX9_init_27 (fun H locs hP hD hS => ?_)
  have hP : va_P (dC, dI) classes [(q0, .inr (9, [.ref q2, .ref q1, .ref q12, .ref q13, .int 0, .int 0])), (q1, .inr (7, [.ref q3, .int 0, .ref q4, .ref q5, .ref q6, .ref q7, .ref q8, .ref q9, .ref q10, .ref q11, .int 0, .int (-1), .int 0, .int (-1), .ref q12, .ref q13]))] H := hP
  have hD : va_D A [(q0, .inr (9, [.ref q2, .ref q1, .ref q12, .ref q13, .int 0, .int 0])), (q1, .inr (7, [.ref q3, .int 0, .ref q4, .ref q5, .ref q6, .ref q7, .ref q8, .ref q9, .ref q10, .ref q11, .int 0, .int (-1), .int 0, .int (-1), .ref q12, .ref q13]))] := hD
  refine lv_aload_n hx hb dX9_init_30 rfl (lv_at hl 0 rfl) ?_
  refine lv_iconst (v := 0) hx hb dX9_init_31 (by decide) ?_
  refine va_put (D := (dC, dI)) (ci := 9) (v := .int 0) (ty := .int) (C := RX9) (T := TX9) (N := 6) hx hb hts (fun w h => mc (in_X9 w h)) tyX9 tyX9_ok nmX9 hown hK hP hD hS 0 rfl rfl 4 (by decide) (hts _ (mc m_156)) (fun _ h9 => h9) rfl (by decide +kernel) (by first | rfl | decide) (by first | rfl | decide) (Nat.le_of_ble_eq_true rfl) dX9_init_32 (fun H locs hP hD hS => ?_)
  have hP : va_P (dC, dI) classes [(q0, .inr (9, [.ref q2, .ref q1, .ref q12, .ref q13, .int 0, .int 0])), (q1, .inr (7, [.ref q3, .int 0, .ref q4, .ref q5, .ref q6, .ref q7, .ref q8, .ref q9, .ref q10, .ref q11, .int 0, .int (-1), .int 0, .int (-1), .ref q12, .ref q13]))] H := hP
  have hD : va_D A [(q0, .inr (9, [.ref q2, .ref q1, .ref q12, .ref q13, .int 0, .int 0])), (q1, .inr (7, [.ref q3, .int 0, .ref q4, .ref q5, .ref q6, .ref q7, .ref q8, .ref q9, .ref q10, .ref q11, .int 0, .int (-1), .int 0, .int (-1), .ref q12, .ref q13]))] := hD
  refine lv_aload_n hx hb dX9_init_35 rfl (lv_at hl 0 rfl) ?_
  refine lv_iconst (v := (-1)) hx hb dX9_init_36 (by decide) ?_
  refine va_put (D := (dC, dI)) (ci := 9) (v := .int (-1)) (ty := .int) (C := RX9) (T := TX9) (N := 6) hx hb hts (fun w h => mc (in_X9 w h)) tyX9 tyX9_ok nmX9 hown hK hP hD hS 0 rfl rfl 5 (by decide) (hts _ (mc m_157)) (fun _ h9 => h9) rfl (by decide +kernel) (by first | rfl | decide) (by first | rfl | decide) (Nat.le_of_ble_eq_true rfl) dX9_init_37 (fun H locs hP hD hS => ?_)
  have hP : va_P (dC, dI) classes [(q0, .inr (9, [.ref q2, .ref q1, .ref q12, .ref q13, .int 0, .int (-1)])), (q1, .inr (7, [.ref q3, .int 0, .ref q4, .ref q5, .ref q6, .ref q7, .ref q8, .ref q9, .ref q10, .ref q11, .int 0, .int (-1), .int 0, .int (-1), .ref q12, .ref q13]))] H := hP
  have hD : va_D A [(q0, .inr (9, [.ref q2, .ref q1, .ref q12, .ref q13, .int 0, .int (-1)])), (q1, .inr (7, [.ref q3, .int 0, .ref q4, .ref q5, .ref q6, .ref q7, .ref q8, .ref q9, .ref q10, .ref q11, .int 0, .int (-1), .int 0, .int (-1), .ref q12, .ref q13]))] := hD
  exact W.vret hx hb hr (fun t ht hW => ⟨⟨(), rfl, trivial, by rw [ht]; exact hP, va_K.moved hW.alike hK, hD⟩, hS.F ht⟩) hS.2.2 dX9_init_40
set_option maxHeartbeats 4000000 in
set_option maxRecDepth 100000 in
theorem c_X2_init_0 (l : Launch) (dC : Nat → ClassId) (dI : Nat → Nat → Nat) (q0 : Nat) (q1 : Nat) (q2 : Nat) (q3 : Nat) (q4 : Nat) (q5 : Nat) (q6 : Nat) (q7 : Nat) (q8 : Nat) (q9 : Nat) (q10 : Nat) (q11 : Nat) (q12 : Nat) (sz : Nat) : Met l yX2_init (.code yX2_init cX2_init 2 none :: bigW) { frames := 1, cells := 3, slots := 24200, locals := 20 } (va_Pc [.ref q0, .ref q1] (q_In dC dI [(q0, .inr (2, [.null, .null, .null, .int 0, .null, .null, .int 0, .int 0])), (q1, .inr (7, [.ref q2, .int 0, .ref q3, .ref q4, .ref q5, .ref q6, .ref q7, .ref q8, .ref q9, .ref q10, .int 0, .int (-1), .int 0, .int (-1), .ref q11, .ref q12]))] [] sz)) (va_Qv (fun _ : Unit => True) (fun _ t => ∃ (q101 : Nat) (q103 : Nat) (q105 : Nat), va_P (dC, dI) classes [(q0, .inr (2, [.ref q101, .ref q103, .ref q105, .int 0, .ref q1, .ref q12, .int 0, .int (-1)])), (q1, .inr (7, [.ref q2, .int 0, .ref q3, .ref q4, .ref q5, .ref q6, .ref q7, .ref q8, .ref q9, .ref q10, .int 0, .int (-1), .int 0, .int (-1), .ref q11, .ref q12]))] t.heap ∧ va_K (dC, dI) classes [] t ∧ va_D (va_A [(q0, .inr (2, [.null, .null, .null, .int 0, .null, .null, .int 0, .int 0])), (q1, .inr (7, [.ref q2, .int 0, .ref q3, .ref q4, .ref q5, .ref q6, .ref q7, .ref q8, .ref q9, .ref q10, .int 0, .int (-1), .int 0, .int (-1), .ref q11, .ref q12]))] sz) [(q0, .inr (2, [.ref q101, .ref q103, .ref q105, .int 0, .ref q1, .ref q12, .int 0, .int (-1)])), (q1, .inr (7, [.ref q2, .int 0, .ref q3, .ref q4, .ref q5, .ref q6, .ref q7, .ref q8, .ref q9, .ref q10, .int 0, .int (-1), .int 0, .int (-1), .ref q11, .ref q12]))]) (va_A [(q0, .inr (2, [.null, .null, .null, .int 0, .null, .null, .int 0, .int 0])), (q1, .inr (7, [.ref q2, .int 0, .ref q3, .ref q4, .ref q5, .ref q6, .ref q7, .ref q8, .ref q9, .ref q10, .int 0, .int (-1), .int 0, .int (-1), .ref q11, .ref q12]))] sz)) 3 24200 (va_A [(q0, .inr (2, [.null, .null, .null, .int 0, .null, .null, .int 0, .int 0])), (q1, .inr (7, [.ref q2, .int 0, .ref q3, .ref q4, .ref q5, .ref q6, .ref q7, .ref q8, .ref q9, .ref q10, .int 0, .int (-1), .int 0, .int (-1), .ref q11, .ref q12]))] sz) := by
  refine Met.ofW (cc := cX2_init) (maxL := 2) (ret := none) (by decide) rfl ?_
  intro p e s m args below meth c s₁ B hml hv
  obtain ⟨rfl, hsz, hP, hK, hD0, hE⟩ := hv
  have hx := B.exec
  have hb := B.bytes
  have hr := B.returns
  have hts := atoms_spec (ws := .code yX2_init cX2_init 2 none :: bigW) B.pre
  have hown : s.vm.findClass RX2 = some m.cls := findClass_of_methodNamed B.named
  have hlocks := B.notSynchronized
  have hin : meth.name = "<init>" := (name_of_methodNamed B.named B.method).1
  subst hsz
  have hD := hD0.self (sz := s.heap.size)
  generalize hAe : va_A [(q0, .inr (2, [.null, .null, .null, .int 0, .null, .null, .int 0, .int 0])), (q1, .inr (7, [.ref q2, .int 0, .ref q3, .ref q4, .ref q5, .ref q6, .ref q7, .ref q8, .ref q9, .ref q10, .int 0, .int (-1), .int 0, .int (-1), .ref q11, .ref q12]))] s.heap.size = A at hD hE ⊢
  have hN : q_N s := hE.2.2.2.1
  have hA : ∀ q : Nat, s.heap.size ≤ q → A q := fun q h => by rw [← hAe]; exact Or.inr h
  have hS : va_S A s.heap s.heap [] := va_S.rf
  have hP : va_P (dC, dI) classes [(q0, .inr (2, [.null, .null, .null, .int 0, .null, .null, .int 0, .int 0])), (q1, .inr (7, [.ref q2, .int 0, .ref q3, .ref q4, .ref q5, .ref q6, .ref q7, .ref q8, .ref q9, .ref q10, .int 0, .int (-1), .int 0, .int (-1), .ref q11, .ref q12]))] s.heap := hP
  have hl := lv_entry ([.ref q0, .ref q1]) (n := 2) (Nat.le_of_ble_eq_true rfl)
  rw [lg_entry_eq]
  generalize (lg_sl ([.ref q0, .ref q1]) ++ List.replicate (2 - (lg_sl ([.ref q0, .ref q1])).length) Slot.unset).toArray = ls at hl ⊢
  have hl : lv_has ls 2 [(0, .ref q0), (1, .ref q1)] := hl
  refine lv_aload_n hx hb dX2_init_0 rfl (lv_at hl 0 rfl) ?_
  refine W.objInit hx hb hown (hts _ (mc m_165)) (hts _ (mc m_1)) (hts _ (mc m_2)) rfl (by rw [hml]; exact hl.1) rfl dX2_init_1 (Nat.le_of_ble_eq_true rfl) (Nat.le_of_ble_eq_true rfl) ?_
  refine W.eq (g2 := F0 m 4 ls []) rfl ?_
  refine lv_aload_n hx hb dX2_init_4 rfl (lv_at hl 0 rfl) ?_
  refine lv_sipush (v := 12080) hx hb dX2_init_5 (by decide) ?_
  refine va_newa (atype := .int) (ty := .int) (N' := 12080) (a0 := (12080, .inl (fun _ => 0))) hx hb (hts _ (mc m_22)) rfl hK hP hD hS hA (fun _ => rfl) (by decide) (by decide) (by decide) (Nat.le_of_ble_eq_true rfl) (Nat.le_of_ble_eq_true rfl) dX2_init_8 (fun q101 k102 H hK hP hD hS => ?_)
  have hP : va_P (dC, dI) classes [(q0, .inr (2, [.null, .null, .null, .int 0, .null, .null, .int 0, .int 0])), (q1, .inr (7, [.ref q2, .int 0, .ref q3, .ref q4, .ref q5, .ref q6, .ref q7, .ref q8, .ref q9, .ref q10, .int 0, .int (-1), .int 0, .int (-1), .ref q11, .ref q12])), (q101, .inl (k102, 12080, .inl (fun _ => 0)))] H := hP
  have hD : va_D A [(q0, .inr (2, [.null, .null, .null, .int 0, .null, .null, .int 0, .int 0])), (q1, .inr (7, [.ref q2, .int 0, .ref q3, .ref q4, .ref q5, .ref q6, .ref q7, .ref q8, .ref q9, .ref q10, .int 0, .int (-1), .int 0, .int (-1), .ref q11, .ref q12])), (q101, .inl (k102, 12080, .inl (fun _ => 0)))] := hD
  have hK : va_K (dC, dI) classes [(k102, .int)] s := hK
  refine W.widen (k := 1) (n := 12080) (Nat.le_of_ble_eq_true rfl) (Nat.le_of_ble_eq_true rfl) ?_
  refine va_putF (D := (dC, dI)) (ci := 2) (v := .ref q101) (ty := .array .int) (C := RX2) (T := TX2) (N := 8) hx hb hts (fun w h => mc (in_X2 w h)) tyX2 tyX2_ok nmX2 hown hK hP hD hS 0 rfl rfl 0 (by decide) (hts _ (mc m_166)) (fun _ h9 => h9) rfl hin rfl (by decide +kernel) (by first | rfl | decide) (by first | rfl | decide) (Nat.le_of_ble_eq_true rfl) dX2_init_10 (fun H locs hP hD hS => ?_)
  have hP : va_P (dC, dI) classes [(q0, .inr (2, [.ref q101, .null, .null, .int 0, .null, .null, .int 0, .int 0])), (q1, .inr (7, [.ref q2, .int 0, .ref q3, .ref q4, .ref q5, .ref q6, .ref q7, .ref q8, .ref q9, .ref q10, .int 0, .int (-1), .int 0, .int (-1), .ref q11, .ref q12])), (q101, .inl (k102, 12080, .inl (fun _ => 0)))] H := hP
  have hD : va_D A [(q0, .inr (2, [.ref q101, .null, .null, .int 0, .null, .null, .int 0, .int 0])), (q1, .inr (7, [.ref q2, .int 0, .ref q3, .ref q4, .ref q5, .ref q6, .ref q7, .ref q8, .ref q9, .ref q10, .int 0, .int (-1), .int 0, .int (-1), .ref q11, .ref q12])), (q101, .inl (k102, 12080, .inl (fun _ => 0)))] := hD
  have hP := hP.sub (ws' := [(q0, .inr (2, [.ref q101, .null, .null, .int 0, .null, .null, .int 0, .int 0])), (q1, .inr (7, [.ref q2, .int 0, .ref q3, .ref q4, .ref q5, .ref q6, .ref q7, .ref q8, .ref q9, .ref q10, .int 0, .int (-1), .int 0, .int (-1), .ref q11, .ref q12]))]) [0, 1] rfl
  have hD := hD.sub (ws' := [(q0, .inr (2, [.ref q101, .null, .null, .int 0, .null, .null, .int 0, .int 0])), (q1, .inr (7, [.ref q2, .int 0, .ref q3, .ref q4, .ref q5, .ref q6, .ref q7, .ref q8, .ref q9, .ref q10, .int 0, .int (-1), .int 0, .int (-1), .ref q11, .ref q12]))]) [0, 1] (by decide) rfl
  have hK := hK.sub (tys' := []) [] rfl
  refine lv_aload_n hx hb dX2_init_13 rfl (lv_at hl 0 rfl) ?_
  refine lv_sipush (v := 12080) hx hb dX2_init_14 (by decide) ?_
  refine va_newa (atype := .int) (ty := .int) (N' := 12080) (a0 := (12080, .inl (fun _ => 0))) hx hb (hts _ (mc m_22)) rfl hK hP hD hS hA (fun _ => rfl) (by decide) (by decide) (by decide) (Nat.le_of_ble_eq_true rfl) (Nat.le_of_ble_eq_true rfl) dX2_init_17 (fun q103 k104 H hK hP hD hS => ?_)
  have hP : va_P (dC, dI) classes [(q0, .inr (2, [.ref q101, .null, .null, .int 0, .null, .null, .int 0, .int 0])), (q1, .inr (7, [.ref q2, .int 0, .ref q3, .ref q4, .ref q5, .ref q6, .ref q7, .ref q8, .ref q9, .ref q10, .int 0, .int (-1), .int 0, .int (-1), .ref q11, .ref q12])), (q103, .inl (k104, 12080, .inl (fun _ => 0)))] H := hP
  have hD : va_D A [(q0, .inr (2, [.ref q101, .null, .null, .int 0, .null, .null, .int 0, .int 0])), (q1, .inr (7, [.ref q2, .int 0, .ref q3, .ref q4, .ref q5, .ref q6, .ref q7, .ref q8, .ref q9, .ref q10, .int 0, .int (-1), .int 0, .int (-1), .ref q11, .ref q12])), (q103, .inl (k104, 12080, .inl (fun _ => 0)))] := hD
  have hK : va_K (dC, dI) classes [(k104, .int)] s := hK
  refine W.widen (k := 2) (n := 24160) (Nat.le_of_ble_eq_true rfl) (Nat.le_of_ble_eq_true rfl) ?_
  refine va_putF (D := (dC, dI)) (ci := 2) (v := .ref q103) (ty := .array .int) (C := RX2) (T := TX2) (N := 8) hx hb hts (fun w h => mc (in_X2 w h)) tyX2 tyX2_ok nmX2 hown hK hP hD hS 0 rfl rfl 1 (by decide) (hts _ (mc m_167)) (fun _ h9 => h9) rfl hin rfl (by decide +kernel) (by first | rfl | decide) (by first | rfl | decide) (Nat.le_of_ble_eq_true rfl) dX2_init_19 (fun H locs hP hD hS => ?_)
  have hP : va_P (dC, dI) classes [(q0, .inr (2, [.ref q101, .ref q103, .null, .int 0, .null, .null, .int 0, .int 0])), (q1, .inr (7, [.ref q2, .int 0, .ref q3, .ref q4, .ref q5, .ref q6, .ref q7, .ref q8, .ref q9, .ref q10, .int 0, .int (-1), .int 0, .int (-1), .ref q11, .ref q12])), (q103, .inl (k104, 12080, .inl (fun _ => 0)))] H := hP
  have hD : va_D A [(q0, .inr (2, [.ref q101, .ref q103, .null, .int 0, .null, .null, .int 0, .int 0])), (q1, .inr (7, [.ref q2, .int 0, .ref q3, .ref q4, .ref q5, .ref q6, .ref q7, .ref q8, .ref q9, .ref q10, .int 0, .int (-1), .int 0, .int (-1), .ref q11, .ref q12])), (q103, .inl (k104, 12080, .inl (fun _ => 0)))] := hD
  have hP := hP.sub (ws' := [(q0, .inr (2, [.ref q101, .ref q103, .null, .int 0, .null, .null, .int 0, .int 0])), (q1, .inr (7, [.ref q2, .int 0, .ref q3, .ref q4, .ref q5, .ref q6, .ref q7, .ref q8, .ref q9, .ref q10, .int 0, .int (-1), .int 0, .int (-1), .ref q11, .ref q12]))]) [0, 1] rfl
  have hD := hD.sub (ws' := [(q0, .inr (2, [.ref q101, .ref q103, .null, .int 0, .null, .null, .int 0, .int 0])), (q1, .inr (7, [.ref q2, .int 0, .ref q3, .ref q4, .ref q5, .ref q6, .ref q7, .ref q8, .ref q9, .ref q10, .int 0, .int (-1), .int 0, .int (-1), .ref q11, .ref q12]))]) [0, 1] (by decide) rfl
  have hK := hK.sub (tys' := []) [] rfl
  refine lv_aload_n hx hb dX2_init_22 rfl (lv_at hl 0 rfl) ?_
  refine lv_bipush (v := 40) hx hb dX2_init_23 (by decide) ?_
  refine va_newa (atype := .int) (ty := .int) (N' := 40) (a0 := (40, .inl (fun _ => 0))) hx hb (hts _ (mc m_22)) rfl hK hP hD hS hA (fun _ => rfl) (by decide) (by decide) (by decide) (Nat.le_of_ble_eq_true rfl) (Nat.le_of_ble_eq_true rfl) dX2_init_25 (fun q105 k106 H hK hP hD hS => ?_)
  have hP : va_P (dC, dI) classes [(q0, .inr (2, [.ref q101, .ref q103, .null, .int 0, .null, .null, .int 0, .int 0])), (q1, .inr (7, [.ref q2, .int 0, .ref q3, .ref q4, .ref q5, .ref q6, .ref q7, .ref q8, .ref q9, .ref q10, .int 0, .int (-1), .int 0, .int (-1), .ref q11, .ref q12])), (q105, .inl (k106, 40, .inl (fun _ => 0)))] H := hP
  have hD : va_D A [(q0, .inr (2, [.ref q101, .ref q103, .null, .int 0, .null, .null, .int 0, .int 0])), (q1, .inr (7, [.ref q2, .int 0, .ref q3, .ref q4, .ref q5, .ref q6, .ref q7, .ref q8, .ref q9, .ref q10, .int 0, .int (-1), .int 0, .int (-1), .ref q11, .ref q12])), (q105, .inl (k106, 40, .inl (fun _ => 0)))] := hD
  have hK : va_K (dC, dI) classes [(k106, .int)] s := hK
  refine W.widen (k := 3) (n := 24200) (Nat.le_of_ble_eq_true rfl) (Nat.le_of_ble_eq_true rfl) ?_
  refine va_putF (D := (dC, dI)) (ci := 2) (v := .ref q105) (ty := .array .int) (C := RX2) (T := TX2) (N := 8) hx hb hts (fun w h => mc (in_X2 w h)) tyX2 tyX2_ok nmX2 hown hK hP hD hS 0 rfl rfl 2 (by decide) (hts _ (mc m_168)) (fun _ h9 => h9) rfl hin rfl (by decide +kernel) (by first | rfl | decide) (by first | rfl | decide) (Nat.le_of_ble_eq_true rfl) dX2_init_27 (fun H locs hP hD hS => ?_)
  have hP : va_P (dC, dI) classes [(q0, .inr (2, [.ref q101, .ref q103, .ref q105, .int 0, .null, .null, .int 0, .int 0])), (q1, .inr (7, [.ref q2, .int 0, .ref q3, .ref q4, .ref q5, .ref q6, .ref q7, .ref q8, .ref q9, .ref q10, .int 0, .int (-1), .int 0, .int (-1), .ref q11, .ref q12])), (q105, .inl (k106, 40, .inl (fun _ => 0)))] H := hP
  have hD : va_D A [(q0, .inr (2, [.ref q101, .ref q103, .ref q105, .int 0, .null, .null, .int 0, .int 0])), (q1, .inr (7, [.ref q2, .int 0, .ref q3, .ref q4, .ref q5, .ref q6, .ref q7, .ref q8, .ref q9, .ref q10, .int 0, .int (-1), .int 0, .int (-1), .ref q11, .ref q12])), (q105, .inl (k106, 40, .inl (fun _ => 0)))] := hD
  have hP := hP.sub (ws' := [(q0, .inr (2, [.ref q101, .ref q103, .ref q105, .int 0, .null, .null, .int 0, .int 0])), (q1, .inr (7, [.ref q2, .int 0, .ref q3, .ref q4, .ref q5, .ref q6, .ref q7, .ref q8, .ref q9, .ref q10, .int 0, .int (-1), .int 0, .int (-1), .ref q11, .ref q12]))]) [0, 1] rfl
  have hD := hD.sub (ws' := [(q0, .inr (2, [.ref q101, .ref q103, .ref q105, .int 0, .null, .null, .int 0, .int 0])), (q1, .inr (7, [.ref q2, .int 0, .ref q3, .ref q4, .ref q5, .ref q6, .ref q7, .ref q8, .ref q9, .ref q10, .int 0, .int (-1), .int 0, .int (-1), .ref q11, .ref q12]))]) [0, 1] (by decide) rfl
  have hK := hK.sub (tys' := []) [] rfl
  refine lv_aload_n hx hb dX2_init_30 rfl (lv_at hl 0 rfl) ?_
  refine lv_iconst (v := 0) hx hb dX2_init_31 (by decide) ?_
  refine va_put (D := (dC, dI)) (ci := 2) (v := .int 0) (ty := .int) (C := RX2) (T := TX2) (N := 8) hx hb hts (fun w h => mc (in_X2 w h)) tyX2 tyX2_ok nmX2 hown hK hP hD hS 0 rfl rfl 3 (by decide) (hts _ (mc m_169)) (fun _ h9 => h9) rfl (by decide +kernel) (by first | rfl | decide) (by first | rfl | decide) (Nat.le_of_ble_eq_true rfl) dX2_init_32 (fun H locs hP hD hS => ?_)
  have hP : va_P (dC, dI) classes [(q0, .inr (2, [.ref q101, .ref q103, .ref q105, .int 0, .null, .null, .int 0, .int 0])), (q1, .inr (7, [.ref q2, .int 0, .ref q3, .ref q4, .ref q5, .ref q6, .ref q7, .ref q8, .ref q9, .ref q10, .int 0, .int (-1), .int 0, .int (-1), .ref q11, .ref q12]))] H := hP
  have hD : va_D A [(q0, .inr (2, [.ref q101, .ref q103, .ref q105, .int 0, .null, .null, .int 0, .int 0])), (q1, .inr (7, [.ref q2, .int 0, .ref q3, .ref q4, .ref q5, .ref q6, .ref q7, .ref q8, .ref q9, .ref q10, .int 0, .int (-1), .int 0, .int (-1), .ref q11, .ref q12]))] := hD
  refine lv_aload_n hx hb dX2_init_35 rfl (lv_at hl 0 rfl) ?_
  refine lv_aload_n hx hb dX2_init_36 rfl (lv_at hl 1 rfl) ?_
  refine va_put (D := (dC, dI)) (ci := 2) (v := .ref q1) (ty := .object "ThreeMills$Program") (C := RX2) (T := TX2) (N := 8) hx hb hts (fun w h => mc (in_X2 w h)) tyX2 tyX2_ok nmX2 hown hK hP hD hS 0 rfl rfl 4 (by decide) (hts _ (mc m_170)) (fun _ h9 => h9) rfl (by decide +kernel) (by first | rfl | decide) (by first | rfl | decide) (Nat.le_of_ble_eq_true rfl) dX2_init_37 (fun H locs hP hD hS => ?_)
  have hP : va_P (dC, dI) classes [(q0, .inr (2, [.ref q101, .ref q103, .ref q105, .int 0, .ref q1, .null, .int 0, .int 0])), (q1, .inr (7, [.ref q2, .int 0, .ref q3, .ref q4, .ref q5, .ref q6, .ref q7, .ref q8, .ref q9, .ref q10, .int 0, .int (-1), .int 0, .int (-1), .ref q11, .ref q12]))] H := hP
  have hD : va_D A [(q0, .inr (2, [.ref q101, .ref q103, .ref q105, .int 0, .ref q1, .null, .int 0, .int 0])), (q1, .inr (7, [.ref q2, .int 0, .ref q3, .ref q4, .ref q5, .ref q6, .ref q7, .ref q8, .ref q9, .ref q10, .int 0, .int (-1), .int 0, .int (-1), .ref q11, .ref q12]))] := hD
  refine lv_aload_n hx hb dX2_init_40 rfl (lv_at hl 0 rfl) ?_
  refine lv_aload_n hx hb dX2_init_41 rfl (lv_at hl 1 rfl) ?_
  have hPc := hP.sub (ws' := [(q1, .inr (7, [.ref q2, .int 0, .ref q3, .ref q4, .ref q5, .ref q6, .ref q7, .ref q8, .ref q9, .ref q10, .int 0, .int (-1), .int 0, .int (-1), .ref q11, .ref q12]))]) [1] rfl
  have hDc := hD.sub (ws' := [(q1, .inr (7, [.ref q2, .int 0, .ref q3, .ref q4, .ref q5, .ref q6, .ref q7, .ref q8, .ref q9, .ref q10, .int 0, .int (-1), .int 0, .int (-1), .ref q11, .ref q12]))]) [1] (by decide) rfl
  have hKc := hK.sub (tys' := []) [] rfl
  have hFc := va_free (wc := [(q1, .inr (7, [.ref q2, .int 0, .ref q3, .ref q4, .ref q5, .ref q6, .ref q7, .ref q8, .ref q9, .ref q10, .int 0, .int (-1), .int 0, .int (-1), .ref q11, .ref q12]))]) hD hS hA [1] rfl
  refine va_callr (va_runV (As := []) (rest := [.ref q0]) ⟨hx, hb, hml, hown, hts⟩ (c_X7_bindings_0 l dC dI q1 q2 q3 q4 q5 q6 q7 q8 q9 q10 q11 q12 H.size) (cwV 0 hts (gV m_171 m_94 m_95 m_18 m_92) rfl rfl rfl (by decide +kernel) ⟨Nat.le_of_ble_eq_true rfl, Nat.le_of_ble_eq_true rfl⟩) ⟨q_bl, va_recv hKc hPc (ci := 7) (q0 := 0) rfl rfl, q_pre hPc hKc hDc hE hS hFc⟩ rfl rfl hl.1 rfl (lv_room (Nat.le_of_ble_eq_true rfl)) dX2_init_42 ⟨Nat.le_of_ble_eq_true rfl, Nat.le_of_ble_eq_true rfl⟩) hS (fun q _ h => hFc q h) hFc (fun u ra9 t H1 locs ht hvm hw hB hz1 hk1 hS => ?_)
  obtain ⟨hra, hP1, hK1, hD1⟩ := hB
  rw [ht] at hP1
  have hK1 := va_K.moved hvm.symm hK1
  obtain ⟨hP, hD⟩ := va_join (wr := [(q0, .inr (2, [.ref q101, .ref q103, .ref q105, .int 0, .ref q1, .null, .int 0, .int 0]))]) (w1 := [(q1, .inr (7, [.ref q2, .int 0, .ref q3, .ref q4, .ref q5, .ref q6, .ref q7, .ref q8, .ref q9, .ref q10, .int 0, .int (-1), .int 0, .int (-1), .ref q11, .ref q12]))]) hP hD [1] [0] rfl rfl (by decide) (by decide) hk1 hFc hP1 hD1
  have hK := (hK.sub (tys' := []) [] rfl).app hK1
  generalize H1 = H at hP hS ⊢
  have hP : va_P (dC, dI) classes [(q0, .inr (2, [.ref q101, .ref q103, .ref q105, .int 0, .ref q1, .null, .int 0, .int 0])), (q1, .inr (7, [.ref q2, .int 0, .ref q3, .ref q4, .ref q5, .ref q6, .ref q7, .ref q8, .ref q9, .ref q10, .int 0, .int (-1), .int 0, .int (-1), .ref q11, .ref q12]))] H := hP
  have hD : va_D A [(q0, .inr (2, [.ref q101, .ref q103, .ref q105, .int 0, .ref q1, .null, .int 0, .int 0])), (q1, .inr (7, [.ref q2, .int 0, .ref q3, .ref q4, .ref q5, .ref q6, .ref q7, .ref q8, .ref q9, .ref q10, .int 0, .int (-1), .int 0, .int (-1), .ref q11, .ref q12]))] := hD
  have hK : va_K (dC, dI) classes [] s := hK
  rw [hra]
  refine va_put (D := (dC, dI)) (ci := 2) (v := .ref q12) (ty := .object "ThreeMills$Bindings") (C := RX2) (T := TX2) (N := 8) hx hb hts (fun w h => mc (in_X2 w h)) tyX2 tyX2_ok nmX2 hown hK hP hD hS 0 rfl rfl 5 (by decide) (hts _ (mc m_172)) (fun _ h9 => h9) rfl (by decide +kernel) (by first | rfl | decide) (by first | rfl | decide) (Nat.le_of_ble_eq_true rfl) dX2_init_45 (fun H locs hP hD hS => ?_)
  have hP : va_P (dC, dI) classes [(q0, .inr (2, [.ref q101, .ref q103, .ref q105, .int 0, .ref q1, .ref q12, .int 0, .int 0])), (q1, .inr (7, [.ref q2, .int 0, .ref q3, .ref q4, .ref q5, .ref q6, .ref q7, .ref q8, .ref q9, .ref q10, .int 0, .int (-1), .int 0, .int (-1), .ref q11, .ref q12]))] H := hP
  have hD : va_D A [(q0, .inr (2, [.ref q101, .ref q103, .ref q105, .int 0, .ref q1, .ref q12, .int 0, .int 0])), (q1, .inr (7, [.ref q2, .int 0, .ref q3, .ref q4, .ref q5, .ref q6, .ref q7, .ref q8, .ref q9, .ref q10, .int 0, .int (-1), .int 0, .int (-1), .ref q11, .ref q12]))] := hD
  refine lv_aload_n hx hb dX2_init_48 rfl (lv_at hl 0 rfl) ?_
  refine lv_iconst (v := 0) hx hb dX2_init_49 (by decide) ?_
  refine va_put (D := (dC, dI)) (ci := 2) (v := .int 0) (ty := .int) (C := RX2) (T := TX2) (N := 8) hx hb hts (fun w h => mc (in_X2 w h)) tyX2 tyX2_ok nmX2 hown hK hP hD hS 0 rfl rfl 6 (by decide) (hts _ (mc m_173)) (fun _ h9 => h9) rfl (by decide +kernel) (by first | rfl | decide) (by first | rfl | decide) (Nat.le_of_ble_eq_true rfl) dX2_init_50 (fun H locs hP hD hS => ?_)
  have hP : va_P (dC, dI) classes [(q0, .inr (2, [.ref q101, .ref q103, .ref q105, .int 0, .ref q1, .ref q12, .int 0, .int 0])), (q1, .inr (7, [.ref q2, .int 0, .ref q3, .ref q4, .ref q5, .ref q6, .ref q7, .ref q8, .ref q9, .ref q10, .int 0, .int (-1), .int 0, .int (-1), .ref q11, .ref q12]))] H := hP
  have hD : va_D A [(q0, .inr (2, [.ref q101, .ref q103, .ref q105, .int 0, .ref q1, .ref q12, .int 0, .int 0])), (q1, .inr (7, [.ref q2, .int 0, .ref q3, .ref q4, .ref q5, .ref q6, .ref q7, .ref q8, .ref q9, .ref q10, .int 0, .int (-1), .int 0, .int (-1), .ref q11, .ref q12]))] := hD
  refine lv_aload_n hx hb dX2_init_53 rfl (lv_at hl 0 rfl) ?_
  refine lv_iconst (v := (-1)) hx hb dX2_init_54 (by decide) ?_
  refine va_put (D := (dC, dI)) (ci := 2) (v := .int (-1)) (ty := .int) (C := RX2) (T := TX2) (N := 8) hx hb hts (fun w h => mc (in_X2 w h)) tyX2 tyX2_ok nmX2 hown hK hP hD hS 0 rfl rfl 7 (by decide) (hts _ (mc m_174)) (fun _ h9 => h9) rfl (by decide +kernel) (by first | rfl | decide) (by first | rfl | decide) (Nat.le_of_ble_eq_true rfl) dX2_init_55 (fun H locs hP hD hS => ?_)
  have hP : va_P (dC, dI) classes [(q0, .inr (2, [.ref q101, .ref q103, .ref q105, .int 0, .ref q1, .ref q12, .int 0, .int (-1)])), (q1, .inr (7, [.ref q2, .int 0, .ref q3, .ref q4, .ref q5, .ref q6, .ref q7, .ref q8, .ref q9, .ref q10, .int 0, .int (-1), .int 0, .int (-1), .ref q11, .ref q12]))] H := hP
  have hD : va_D A [(q0, .inr (2, [.ref q101, .ref q103, .ref q105, .int 0, .ref q1, .ref q12, .int 0, .int (-1)])), (q1, .inr (7, [.ref q2, .int 0, .ref q3, .ref q4, .ref q5, .ref q6, .ref q7, .ref q8, .ref q9, .ref q10, .int 0, .int (-1), .int 0, .int (-1), .ref q11, .ref q12]))] := hD
  exact W.vret hx hb hr (fun t ht hW => ⟨⟨(), rfl, trivial, q101, q103, q105, by rw [ht]; exact hP, va_K.moved hW.alike hK, hD⟩, hS.F ht⟩) hS.2.2 dX2_init_58
set_option maxHeartbeats 4000000 in
set_option maxRecDepth 100000 in
theorem c_X3_init_1 (l : Launch) (dC : Nat → ClassId) (dI : Nat → Nat → Nat) (q0 : Nat) (sz : Nat) : Met l yX3_init (.code yX3_init cX3_init 2 none :: bigW) { frames := 1, cells := 1, slots := 4000, locals := 20 } (va_Pc [.ref q0, .int 4000] (q_In dC dI [(q0, .inr (3, [.null, .int 0]))] [] sz)) (va_Qv (fun _ : Unit => True) (fun _ t => ∃ (q101 : Nat), va_P (dC, dI) classes [(q0, .inr (3, [.ref q101, .int 0]))] t.heap ∧ va_K (dC, dI) classes [] t ∧ va_D (va_A [(q0, .inr (3, [.null, .int 0]))] sz) [(q0, .inr (3, [.ref q101, .int 0]))]) (va_A [(q0, .inr (3, [.null, .int 0]))] sz)) 1 4000 (va_A [(q0, .inr (3, [.null, .int 0]))] sz) := by
  refine Met.ofW (cc := cX3_init) (maxL := 2) (ret := none) (by decide) rfl ?_
  intro p e s m args below meth c s₁ B hml hv
  obtain ⟨rfl, hsz, hP, hK, hD0, hE⟩ := hv
  have hx := B.exec
  have hb := B.bytes
  have hr := B.returns
  have hts := atoms_spec (ws := .code yX3_init cX3_init 2 none :: bigW) B.pre
  have hown : s.vm.findClass RX3 = some m.cls := findClass_of_methodNamed B.named
  have hlocks := B.notSynchronized
  have hin : meth.name = "<init>" := (name_of_methodNamed B.named B.method).1
  subst hsz
  have hD := hD0.self (sz := s.heap.size)
  generalize hAe : va_A [(q0, .inr (3, [.null, .int 0]))] s.heap.size = A at hD hE ⊢
  have hN : q_N s := hE.2.2.2.1
  have hA : ∀ q : Nat, s.heap.size ≤ q → A q := fun q h => by rw [← hAe]; exact Or.inr h
  have hS : va_S A s.heap s.heap [] := va_S.rf
  have hP : va_P (dC, dI) classes [(q0, .inr (3, [.null, .int 0]))] s.heap := hP
  have hl := lv_entry ([.ref q0, .int 4000]) (n := 2) (Nat.le_of_ble_eq_true rfl)
  rw [lg_entry_eq]
  generalize (lg_sl ([.ref q0, .int 4000]) ++ List.replicate (2 - (lg_sl ([.ref q0, .int 4000])).length) Slot.unset).toArray = ls at hl ⊢
  have hl : lv_has ls 2 [(0, .ref q0), (1, .int 4000)] := hl
  refine lv_aload_n hx hb dX3_init_0 rfl (lv_at hl 0 rfl) ?_
  refine W.objInit hx hb hown (hts _ (mc m_9)) (hts _ (mc m_1)) (hts _ (mc m_2)) rfl (by rw [hml]; exact hl.1) rfl dX3_init_1 (Nat.le_of_ble_eq_true rfl) (Nat.le_of_ble_eq_true rfl) ?_
  refine W.eq (g2 := F0 m 4 ls []) rfl ?_
  refine lv_aload_n hx hb dX3_init_4 rfl (lv_at hl 0 rfl) ?_
  refine lv_iload_n hx hb dX3_init_5 rfl (lv_at hl 1 rfl) ?_
  refine lv_if_le (tgt := 13) hx hb dX3_init_6 (by decide) (fun c9 => absurd c9 (by decide)) (fun _ => ?_)
  refine lv_iload_n hx hb dX3_init_9 rfl (lv_at hl 1 rfl) ?_
  refine lv_goto (tgt := 14) hx hb dX3_init_10 (by decide) ?_
  refine va_newa (atype := .byte) (ty := .byte) (N' := 4000) (a0 := (4000, .inl (fun _ => 0))) hx hb (hts _ (mc m_3)) rfl hK hP hD hS hA (fun _ => rfl) (by decide) (by decide) (by decide) (Nat.le_of_ble_eq_true rfl) (Nat.le_of_ble_eq_true rfl) dX3_init_14 (fun q101 k102 H hK hP hD hS => ?_)
  have hP : va_P (dC, dI) classes [(q0, .inr (3, [.null, .int 0])), (q101, .inl (k102, 4000, .inl (fun _ => 0)))] H := hP
  have hD : va_D A [(q0, .inr (3, [.null, .int 0])), (q101, .inl (k102, 4000, .inl (fun _ => 0)))] := hD
  have hK : va_K (dC, dI) classes [(k102, .byte)] s := hK
  refine W.widen (k := 1) (n := 4000) (Nat.le_of_ble_eq_true rfl) (Nat.le_of_ble_eq_true rfl) ?_
  refine va_putF (D := (dC, dI)) (ci := 3) (v := .ref q101) (ty := .array .byte) (C := RX3) (T := TX3) (N := 2) hx hb hts (fun w h => mc (in_X3 w h)) tyX3 tyX3_ok nmX3 hown hK hP hD hS 0 rfl rfl 0 (by decide) (hts _ (mc m_10)) (fun _ h9 => h9) rfl hin rfl (by decide +kernel) (by first | rfl | decide) (by first | rfl | decide) (Nat.le_of_ble_eq_true rfl) dX3_init_16 (fun H locs hP hD hS => ?_)
  have hP : va_P (dC, dI) classes [(q0, .inr (3, [.ref q101, .int 0])), (q101, .inl (k102, 4000, .inl (fun _ => 0)))] H := hP
  have hD : va_D A [(q0, .inr (3, [.ref q101, .int 0])), (q101, .inl (k102, 4000, .inl (fun _ => 0)))] := hD
  have hP := hP.sub (ws' := [(q0, .inr (3, [.ref q101, .int 0]))]) [0] rfl
  have hD := hD.sub (ws' := [(q0, .inr (3, [.ref q101, .int 0]))]) [0] (by decide) rfl
  have hK := hK.sub (tys' := []) [] rfl
  refine lv_aload_n hx hb dX3_init_19 rfl (lv_at hl 0 rfl) ?_
  refine lv_iconst (v := 0) hx hb dX3_init_20 (by decide) ?_
  refine va_put (D := (dC, dI)) (ci := 3) (v := .int 0) (ty := .int) (C := RX3) (T := TX3) (N := 2) hx hb hts (fun w h => mc (in_X3 w h)) tyX3 tyX3_ok nmX3 hown hK hP hD hS 0 rfl rfl 1 (by decide) (hts _ (mc m_11)) (fun _ h9 => h9) rfl (by decide +kernel) (by first | rfl | decide) (by first | rfl | decide) (Nat.le_of_ble_eq_true rfl) dX3_init_21 (fun H locs hP hD hS => ?_)
  have hP : va_P (dC, dI) classes [(q0, .inr (3, [.ref q101, .int 0]))] H := hP
  have hD : va_D A [(q0, .inr (3, [.ref q101, .int 0]))] := hD
  exact W.vret hx hb hr (fun t ht hW => ⟨⟨(), rfl, trivial, q101, by rw [ht]; exact hP, va_K.moved hW.alike hK, hD⟩, hS.F ht⟩) hS.2.2 dX3_init_24
