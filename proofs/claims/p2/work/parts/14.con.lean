set_option maxHeartbeats 4000000 in
set_option maxRecDepth 100000 in
theorem c_X12_feed_0 (l : Launch) (dC : Nat → ClassId) (dI : Nat → Nat → Nat) (q0 : Nat) (p0 : Int32) (p1 : Int32) (p2 : Int32) (p3 : Int32) (p4 : Int32) (q1 : Nat) (x0 : Int32) (q2 : Nat) (q3 : Nat) (q4 : Nat) (n0 : Nat) (x1 : Int32) (x2 : Int32) (x3 : Int32) (x4 : Int32) (x5 : Int32) (x6 : Int32) (x7 : Int32) (x8 : Int32) (x9 : Int32) (x10 : Int32) (x11 : Int32) (x12 : Int32) (x13 : Int32) (x14 : Int32) (x15 : Int32) (q5 : Nat) (q6 : Nat) (q7 : Nat) (q8 : Nat) (q9 : Nat) (q10 : Nat) (q11 : Nat) (q12 : Nat) (x16 : Int32) (q13 : Nat) (q14 : Nat) (q15 : Nat) (q16 : Nat) (x17 : Int32) (q17 : Nat) (q18 : Nat) (q19 : Nat) (q20 : Nat) (q21 : Nat) (q22 : Nat) (q23 : Nat) (q24 : Nat) (q25 : Nat) (q26 : Nat) (q27 : Nat) (q28 : Nat) (x18 : Int32) (q29 : Nat) (q30 : Nat) (x19 : Int32) (q31 : Nat) (q32 : Nat) (q33 : Nat) (q34 : Nat) (q35 : Nat) (x20 : Int32) (x21 : Int32) (x22 : Int32) (x23 : Int32) (x24 : Int32) (x25 : Int32) (x26 : Int32) (x27 : Int32) (x28 : Int32) (x29 : Int32) (x30 : Int32) (x31 : Int32) (x32 : Int32) (x33 : Int32) (q36 : Nat) (q37 : Nat) (q38 : Nat) (q39 : Nat) (q40 : Nat) (x34 : Int32) (x35 : Int32) (q41 : Nat) (q42 : Nat) (x36 : Int32) (q43 : Nat) (k0 : ClassId) (f0 : Nat → Int32) (sz : Nat) (h1 : n0 + 20 ≤ 3000) : Met l yX12_feed (.code yX12_feed cX12_feed 8 (some .int) :: bigW) { frames := 0, cells := 0, slots := 0, locals := 0 } (va_Pc [.ref q0, .int p0, .int p1, .int p2, .int p3, .int p4] (q_In dC dI [(q0, .inr (12, [.ref q1, .int x0, .ref q2, .ref q3, .ref q4, .int (nI n0), .int x1, .int x2, .int x3, .int x4, .int x5, .int x6, .int x7, .int x8, .int x9, .int x10, .int x11, .int x12, .int x13, .int x14, .int x15, .ref q5, .ref q6, .ref q7, .ref q8, .ref q9, .ref q10, .ref q11, .ref q12, .int x16, .ref q13, .ref q14, .ref q15, .ref q16, .int x17, .ref q17, .ref q18, .ref q19, .ref q20, .ref q21, .ref q22, .ref q23, .ref q24, .ref q25, .ref q26, .ref q27, .ref q28, .int x18, .ref q29, .ref q30, .int x19, .ref q31, .ref q32, .ref q33, .ref q34, .ref q35, .int x20, .int x21, .int x22, .int x23, .int x24, .int x25, .int x26, .int x27, .int x28, .int x29, .int x30, .int x31, .int x32, .int x33, .ref q36, .ref q37, .ref q38, .ref q39, .ref q40, .int x34, .int x35, .ref q41, .ref q42, .int x36, .ref q43])), (q2, .inl (k0, 3000, .inl f0))] [(k0, .int)] sz)) (va_Qi (fun (r9 : Int32) (_ : Unit) => r9 = (nI (n0 + 20))) (fun _ t => ∃ (f160 : Nat → Int32), va_P (dC, dI) classes [(q0, .inr (12, [.ref q1, .int 0, .ref q2, .ref q3, .ref q4, .int (nI (n0 + 20)), .int x1, .int x2, .int x3, .int x4, .int x5, .int x6, .int x7, .int x8, .int x9, .int x10, .int x11, .int x12, .int x13, .int x14, .int x15, .ref q5, .ref q6, .ref q7, .ref q8, .ref q9, .ref q10, .ref q11, .ref q12, .int x16, .ref q13, .ref q14, .ref q15, .ref q16, .int x17, .ref q17, .ref q18, .ref q19, .ref q20, .ref q21, .ref q22, .ref q23, .ref q24, .ref q25, .ref q26, .ref q27, .ref q28, .int x18, .ref q29, .ref q30, .int x19, .ref q31, .ref q32, .ref q33, .ref q34, .ref q35, .int x20, .int x21, .int x22, .int x23, .int x24, .int x25, .int x26, .int x27, .int x28, .int x29, .int x30, .int x31, .int x32, .int x33, .ref q36, .ref q37, .ref q38, .ref q39, .ref q40, .int x34, .int x35, .ref q41, .ref q42, .int x36, .ref q43])), (q2, .inl (k0, 3000, .inl f160))] t.heap ∧ va_K (dC, dI) classes [(k0, .int)] t ∧ va_D (va_A [(q0, .inr (12, [.ref q1, .int x0, .ref q2, .ref q3, .ref q4, .int (nI n0), .int x1, .int x2, .int x3, .int x4, .int x5, .int x6, .int x7, .int x8, .int x9, .int x10, .int x11, .int x12, .int x13, .int x14, .int x15, .ref q5, .ref q6, .ref q7, .ref q8, .ref q9, .ref q10, .ref q11, .ref q12, .int x16, .ref q13, .ref q14, .ref q15, .ref q16, .int x17, .ref q17, .ref q18, .ref q19, .ref q20, .ref q21, .ref q22, .ref q23, .ref q24, .ref q25, .ref q26, .ref q27, .ref q28, .int x18, .ref q29, .ref q30, .int x19, .ref q31, .ref q32, .ref q33, .ref q34, .ref q35, .int x20, .int x21, .int x22, .int x23, .int x24, .int x25, .int x26, .int x27, .int x28, .int x29, .int x30, .int x31, .int x32, .int x33, .ref q36, .ref q37, .ref q38, .ref q39, .ref q40, .int x34, .int x35, .ref q41, .ref q42, .int x36, .ref q43])), (q2, .inl (k0, 3000, .inl f0))] sz) [(q0, .inr (12, [.ref q1, .int 0, .ref q2, .ref q3, .ref q4, .int (nI (n0 + 20)), .int x1, .int x2, .int x3, .int x4, .int x5, .int x6, .int x7, .int x8, .int x9, .int x10, .int x11, .int x12, .int x13, .int x14, .int x15, .ref q5, .ref q6, .ref q7, .ref q8, .ref q9, .ref q10, .ref q11, .ref q12, .int x16, .ref q13, .ref q14, .ref q15, .ref q16, .int x17, .ref q17, .ref q18, .ref q19, .ref q20, .ref q21, .ref q22, .ref q23, .ref q24, .ref q25, .ref q26, .ref q27, .ref q28, .int x18, .ref q29, .ref q30, .int x19, .ref q31, .ref q32, .ref q33, .ref q34, .ref q35, .int x20, .int x21, .int x22, .int x23, .int x24, .int x25, .int x26, .int x27, .int x28, .int x29, .int x30, .int x31, .int x32, .int x33, .ref q36, .ref q37, .ref q38, .ref q39, .ref q40, .int x34, .int x35, .ref q41, .ref q42, .int x36, .ref q43])), (q2, .inl (k0, 3000, .inl f160))]) (va_A [(q0, .inr (12, [.ref q1, .int x0, .ref q2, .ref q3, .ref q4, .int (nI n0), .int x1, .int x2, .int x3, .int x4, .int x5, .int x6, .int x7, .int x8, .int x9, .int x10, .int x11, .int x12, .int x13, .int x14, .int x15, .ref q5, .ref q6, .ref q7, .ref q8, .ref q9, .ref q10, .ref q11, .ref q12, .int x16, .ref q13, .ref q14, .ref q15, .ref q16, .int x17, .ref q17, .ref q18, .ref q19, .ref q20, .ref q21, .ref q22, .ref q23, .ref q24, .ref q25, .ref q26, .ref q27, .ref q28, .int x18, .ref q29, .ref q30, .int x19, .ref q31, .ref q32, .ref q33, .ref q34, .ref q35, .int x20, .int x21, .int x22, .int x23, .int x24, .int x25, .int x26, .int x27, .int x28, .int x29, .int x30, .int x31, .int x32, .int x33, .ref q36, .ref q37, .ref q38, .ref q39, .ref q40, .int x34, .int x35, .ref q41, .ref q42, .int x36, .ref q43])), (q2, .inl (k0, 3000, .inl f0))] sz)) 0 0 (va_A [(q0, .inr (12, [.ref q1, .int x0, .ref q2, .ref q3, .ref q4, .int (nI n0), .int x1, .int x2, .int x3, .int x4, .int x5, .int x6, .int x7, .int x8, .int x9, .int x10, .int x11, .int x12, .int x13, .int x14, .int x15, .ref q5, .ref q6, .ref q7, .ref q8, .ref q9, .ref q10, .ref q11, .ref q12, .int x16, .ref q13, .ref q14, .ref q15, .ref q16, .int x17, .ref q17, .ref q18, .ref q19, .ref q20, .ref q21, .ref q22, .ref q23, .ref q24, .ref q25, .ref q26, .ref q27, .ref q28, .int x18, .ref q29, .ref q30, .int x19, .ref q31, .ref q32, .ref q33, .ref q34, .ref q35, .int x20, .int x21, .int x22, .int x23, .int x24, .int x25, .int x26, .int x27, .int x28, .int x29, .int x30, .int x31, .int x32, .int x33, .ref q36, .ref q37, .ref q38, .ref q39, .ref q40, .int x34, .int x35, .ref q41, .ref q42, .int x36, .ref q43])), (q2, .inl (k0, 3000, .inl f0))] sz) := by
  refine Met.ofW (cc := cX12_feed) (maxL := 8) (ret := (some .int)) (by decide) rfl ?_
  intro p e s m args below meth c s₁ B hml hv
  obtain ⟨rfl, hsz, hP, hK, hD0, hE⟩ := hv
  have hx := B.exec
  have hb := B.bytes
  have hr := B.returns
  have hts := atoms_spec (ws := .code yX12_feed cX12_feed 8 (some .int) :: bigW) B.pre
  have hown : s.vm.findClass RX12 = some m.cls := findClass_of_methodNamed B.named
  have hlocks := B.notSynchronized
  subst hsz
  have hD := hD0.self (sz := s.heap.size)
  generalize hAe : va_A [(q0, .inr (12, [.ref q1, .int x0, .ref q2, .ref q3, .ref q4, .int (nI n0), .int x1, .int x2, .int x3, .int x4, .int x5, .int x6, .int x7, .int x8, .int x9, .int x10, .int x11, .int x12, .int x13, .int x14, .int x15, .ref q5, .ref q6, .ref q7, .ref q8, .ref q9, .ref q10, .ref q11, .ref q12, .int x16, .ref q13, .ref q14, .ref q15, .ref q16, .int x17, .ref q17, .ref q18, .ref q19, .ref q20, .ref q21, .ref q22, .ref q23, .ref q24, .ref q25, .ref q26, .ref q27, .ref q28, .int x18, .ref q29, .ref q30, .int x19, .ref q31, .ref q32, .ref q33, .ref q34, .ref q35, .int x20, .int x21, .int x22, .int x23, .int x24, .int x25, .int x26, .int x27, .int x28, .int x29, .int x30, .int x31, .int x32, .int x33, .ref q36, .ref q37, .ref q38, .ref q39, .ref q40, .int x34, .int x35, .ref q41, .ref q42, .int x36, .ref q43])), (q2, .inl (k0, 3000, .inl f0))] s.heap.size = A at hD hE ⊢
  have hN : q_N s := hE.2.2.2.1
  have hA : ∀ q : Nat, s.heap.size ≤ q → A q := fun q h => by rw [← hAe]; exact Or.inr h
  have hS : va_S A s.heap s.heap [] := va_S.rf
  have hP : va_P (dC, dI) classes [(q0, .inr (12, [.ref q1, .int x0, .ref q2, .ref q3, .ref q4, .int (nI n0), .int x1, .int x2, .int x3, .int x4, .int x5, .int x6, .int x7, .int x8, .int x9, .int x10, .int x11, .int x12, .int x13, .int x14, .int x15, .ref q5, .ref q6, .ref q7, .ref q8, .ref q9, .ref q10, .ref q11, .ref q12, .int x16, .ref q13, .ref q14, .ref q15, .ref q16, .int x17, .ref q17, .ref q18, .ref q19, .ref q20, .ref q21, .ref q22, .ref q23, .ref q24, .ref q25, .ref q26, .ref q27, .ref q28, .int x18, .ref q29, .ref q30, .int x19, .ref q31, .ref q32, .ref q33, .ref q34, .ref q35, .int x20, .int x21, .int x22, .int x23, .int x24, .int x25, .int x26, .int x27, .int x28, .int x29, .int x30, .int x31, .int x32, .int x33, .ref q36, .ref q37, .ref q38, .ref q39, .ref q40, .int x34, .int x35, .ref q41, .ref q42, .int x36, .ref q43])), (q2, .inl (k0, 3000, .inl f0))] s.heap := hP
  have hl := lv_entry ([.ref q0, .int p0, .int p1, .int p2, .int p3, .int p4]) (n := 8) (Nat.le_of_ble_eq_true rfl)
  rw [lg_entry_eq]
  generalize (lg_sl ([.ref q0, .int p0, .int p1, .int p2, .int p3, .int p4]) ++ List.replicate (8 - (lg_sl ([.ref q0, .int p0, .int p1, .int p2, .int p3, .int p4])).length) Slot.unset).toArray = ls at hl ⊢
  have hl : lv_has ls 8 [(0, .ref q0), (1, .int p0), (2, .int p1), (3, .int p2), (4, .int p3), (5, .int p4)] := hl
  refine lv_aload_n hx hb dX12_feed_0 rfl (lv_at hl 0 rfl) ?_
  refine lv_iconst (v := 0) hx hb dX12_feed_1 (by decide) ?_
  refine va_put (D := (dC, dI)) (ci := 12) (v := .int 0) (ty := .int) (C := RX12) (T := TX12) (N := 81) hx hb hts (fun w h => mc (in_X12 w h)) tyX12 tyX12_ok nmX12 hown hK hP hD hS 0 rfl rfl 1 (by decide) (hts _ (mc m_256)) (fun _ h9 => h9) rfl (by decide +kernel) (by first | rfl | decide) (by first | rfl | decide) (Nat.le_of_ble_eq_true rfl) dX12_feed_2 (fun H locs hP hD hS => ?_)
  have hP : va_P (dC, dI) classes [(q0, .inr (12, [.ref q1, .int 0, .ref q2, .ref q3, .ref q4, .int (nI n0), .int x1, .int x2, .int x3, .int x4, .int x5, .int x6, .int x7, .int x8, .int x9, .int x10, .int x11, .int x12, .int x13, .int x14, .int x15, .ref q5, .ref q6, .ref q7, .ref q8, .ref q9, .ref q10, .ref q11, .ref q12, .int x16, .ref q13, .ref q14, .ref q15, .ref q16, .int x17, .ref q17, .ref q18, .ref q19, .ref q20, .ref q21, .ref q22, .ref q23, .ref q24, .ref q25, .ref q26, .ref q27, .ref q28, .int x18, .ref q29, .ref q30, .int x19, .ref q31, .ref q32, .ref q33, .ref q34, .ref q35, .int x20, .int x21, .int x22, .int x23, .int x24, .int x25, .int x26, .int x27, .int x28, .int x29, .int x30, .int x31, .int x32, .int x33, .ref q36, .ref q37, .ref q38, .ref q39, .ref q40, .int x34, .int x35, .ref q41, .ref q42, .int x36, .ref q43])), (q2, .inl (k0, 3000, .inl f0))] H := hP
  have hD : va_D A [(q0, .inr (12, [.ref q1, .int 0, .ref q2, .ref q3, .ref q4, .int (nI n0), .int x1, .int x2, .int x3, .int x4, .int x5, .int x6, .int x7, .int x8, .int x9, .int x10, .int x11, .int x12, .int x13, .int x14, .int x15, .ref q5, .ref q6, .ref q7, .ref q8, .ref q9, .ref q10, .ref q11, .ref q12, .int x16, .ref q13, .ref q14, .ref q15, .ref q16, .int x17, .ref q17, .ref q18, .ref q19, .ref q20, .ref q21, .ref q22, .ref q23, .ref q24, .ref q25, .ref q26, .ref q27, .ref q28, .int x18, .ref q29, .ref q30, .int x19, .ref q31, .ref q32, .ref q33, .ref q34, .ref q35, .int x20, .int x21, .int x22, .int x23, .int x24, .int x25, .int x26, .int x27, .int x28, .int x29, .int x30, .int x31, .int x32, .int x33, .ref q36, .ref q37, .ref q38, .ref q39, .ref q40, .int x34, .int x35, .ref q41, .ref q42, .int x36, .ref q43])), (q2, .inl (k0, 3000, .inl f0))] := hD
  refine lv_aload_n hx hb dX12_feed_5 rfl (lv_at hl 0 rfl) ?_
  refine va_get (D := (dC, dI)) (ci := 12) (v := .int (nI n0)) (C := RX12) (T := TX12) (N := 81) hx hb hts (fun w h => mc (in_X12 w h)) hown hK hP 0 rfl rfl 5 (by decide) (hts _ (mc m_257)) (fun _ h9 => h9) rfl dX12_feed_6 ?_
  refine lv_bipush (v := 20) hx hb dX12_feed_9 (by decide) ?_
  refine lv_iadd hx hb dX12_feed_11 ?_
  refine q_topi (nI (n0 + 20)) (nI_add _ 20) ?_
  refine lv_sipush (v := 3000) hx hb dX12_feed_12 (by decide) ?_
  refine lv_icmp_le (tgt := 20) hx hb dX12_feed_15 (by decide) (fun _ => ?_) (fun c9 => absurd (nI_le (b := 3000) (by omega) (by decide)) c9)
  refine lv_iconst (v := 0) hx hb dX12_feed_20 (by decide) ?_
  refine lv_istore (lv' := [(6, .int 0), (0, .ref q0), (1, .int p0), (2, .int p1), (3, .int p2), (4, .int p3), (5, .int p4)]) hx hb dX12_feed_21 hl (by decide) rfl (fun ls hl => ?_)
  refine lv_iload hx hb dX12_feed_23 (lv_at hl 0 rfl) ?_
  refine lv_bipush (v := 20) hx hb dX12_feed_25 (by decide) ?_
  refine lv_icmp_ge (tgt := 120) hx hb dX12_feed_27 (by decide) (fun c9 => absurd c9 (by decide)) (fun _ => ?_)
  refine lv_iload hx hb dX12_feed_30 (lv_at hl 0 rfl) ?_
  refine lv_iconst (v := 4) hx hb dX12_feed_32 (by decide) ?_
  refine lv_icmp_ge (tgt := 40) hx hb dX12_feed_33 (by decide) (fun c9 => absurd c9 (by decide)) (fun _ => ?_)
  refine lv_iload_n hx hb dX12_feed_36 rfl (lv_at hl 2 rfl) ?_
  refine lv_goto (tgt := 76) hx hb dX12_feed_37 (by decide) ?_
  refine lv_istore (lv' := [(7, .int p0), (6, .int 0), (0, .ref q0), (1, .int p0), (2, .int p1), (3, .int p2), (4, .int p3), (5, .int p4)]) hx hb dX12_feed_76 hl (by decide) rfl (fun ls hl => ?_)
  refine lv_aload_n hx hb dX12_feed_78 rfl (lv_at hl 2 rfl) ?_
  refine va_get (D := (dC, dI)) (ci := 12) (v := .ref q2) (C := RX12) (T := TX12) (N := 81) hx hb hts (fun w h => mc (in_X12 w h)) hown hK hP 0 rfl rfl 2 (by decide) (hts _ (mc m_203)) (fun _ h9 => h9) rfl dX12_feed_79 ?_
  refine lv_aload_n hx hb dX12_feed_82 rfl (lv_at hl 2 rfl) ?_
  refine va_get (D := (dC, dI)) (ci := 12) (v := .int (nI n0)) (C := RX12) (T := TX12) (N := 81) hx hb hts (fun w h => mc (in_X12 w h)) hown hK hP 0 rfl rfl 5 (by decide) (hts _ (mc m_257)) (fun _ h9 => h9) rfl dX12_feed_83 ?_
  refine lv_iload hx hb dX12_feed_86 (lv_at hl 0 rfl) ?_
  refine lv_bipush (v := 24) hx hb dX12_feed_88 (by decide) ?_
  refine lv_bipush (v := 8) hx hb dX12_feed_90 (by decide) ?_
  refine lv_iload hx hb dX12_feed_92 (lv_at hl 1 rfl) ?_
  refine lv_iconst (v := 4) hx hb dX12_feed_94 (by decide) ?_
  refine lv_irem hx hb dX12_feed_95 (by decide) ?_
  refine q_topi 0 (by decide) ?_
  refine lv_imul hx hb dX12_feed_96 ?_
  refine q_topi 0 (by decide) ?_
  refine lv_isub hx hb dX12_feed_97 ?_
  refine q_topi 24 (by decide) ?_
  refine lv_ishr hx hb dX12_feed_98 ?_
  refine lv_topi (fun x101 ex101 => ?_)
  refine lv_sipush (v := 255) hx hb dX12_feed_99 (by decide) ?_
  refine lv_iand hx hb dX12_feed_102 ?_
  refine lv_topi (fun x102 ex102 => ?_)
  refine va_iast hx hb hK hP hD hS 1 0 rfl rfl (vp_in_nI (by omega) (by decide)) dX12_feed_103 (fun H locs hP hD hS => ?_)
  have hP : va_P (dC, dI) classes [(q0, .inr (12, [.ref q1, .int 0, .ref q2, .ref q3, .ref q4, .int (nI n0), .int x1, .int x2, .int x3, .int x4, .int x5, .int x6, .int x7, .int x8, .int x9, .int x10, .int x11, .int x12, .int x13, .int x14, .int x15, .ref q5, .ref q6, .ref q7, .ref q8, .ref q9, .ref q10, .ref q11, .ref q12, .int x16, .ref q13, .ref q14, .ref q15, .ref q16, .int x17, .ref q17, .ref q18, .ref q19, .ref q20, .ref q21, .ref q22, .ref q23, .ref q24, .ref q25, .ref q26, .ref q27, .ref q28, .int x18, .ref q29, .ref q30, .int x19, .ref q31, .ref q32, .ref q33, .ref q34, .ref q35, .int x20, .int x21, .int x22, .int x23, .int x24, .int x25, .int x26, .int x27, .int x28, .int x29, .int x30, .int x31, .int x32, .int x33, .ref q36, .ref q37, .ref q38, .ref q39, .ref q40, .int x34, .int x35, .ref q41, .ref q42, .int x36, .ref q43])), (q2, .inl (k0, 3000, .inl (upd f0 (Int32.toNatClampNeg (nI n0)) x102)))] H := hP
  have hD : va_D A [(q0, .inr (12, [.ref q1, .int 0, .ref q2, .ref q3, .ref q4, .int (nI n0), .int x1, .int x2, .int x3, .int x4, .int x5, .int x6, .int x7, .int x8, .int x9, .int x10, .int x11, .int x12, .int x13, .int x14, .int x15, .ref q5, .ref q6, .ref q7, .ref q8, .ref q9, .ref q10, .ref q11, .ref q12, .int x16, .ref q13, .ref q14, .ref q15, .ref q16, .int x17, .ref q17, .ref q18, .ref q19, .ref q20, .ref q21, .ref q22, .ref q23, .ref q24, .ref q25, .ref q26, .ref q27, .ref q28, .int x18, .ref q29, .ref q30, .int x19, .ref q31, .ref q32, .ref q33, .ref q34, .ref q35, .int x20, .int x21, .int x22, .int x23, .int x24, .int x25, .int x26, .int x27, .int x28, .int x29, .int x30, .int x31, .int x32, .int x33, .ref q36, .ref q37, .ref q38, .ref q39, .ref q40, .int x34, .int x35, .ref q41, .ref q42, .int x36, .ref q43])), (q2, .inl (k0, 3000, .inl (upd f0 (Int32.toNatClampNeg (nI n0)) x102)))] := hD
  obtain ⟨f103, ef103⟩ : ∃ z : Nat → Int32, z = (upd f0 (Int32.toNatClampNeg (nI n0)) x102) := ⟨_, rfl⟩
  rw [← ef103] at hP hD
  have hP : va_P (dC, dI) classes [(q0, .inr (12, [.ref q1, .int 0, .ref q2, .ref q3, .ref q4, .int (nI n0), .int x1, .int x2, .int x3, .int x4, .int x5, .int x6, .int x7, .int x8, .int x9, .int x10, .int x11, .int x12, .int x13, .int x14, .int x15, .ref q5, .ref q6, .ref q7, .ref q8, .ref q9, .ref q10, .ref q11, .ref q12, .int x16, .ref q13, .ref q14, .ref q15, .ref q16, .int x17, .ref q17, .ref q18, .ref q19, .ref q20, .ref q21, .ref q22, .ref q23, .ref q24, .ref q25, .ref q26, .ref q27, .ref q28, .int x18, .ref q29, .ref q30, .int x19, .ref q31, .ref q32, .ref q33, .ref q34, .ref q35, .int x20, .int x21, .int x22, .int x23, .int x24, .int x25, .int x26, .int x27, .int x28, .int x29, .int x30, .int x31, .int x32, .int x33, .ref q36, .ref q37, .ref q38, .ref q39, .ref q40, .int x34, .int x35, .ref q41, .ref q42, .int x36, .ref q43])), (q2, .inl (k0, 3000, .inl f103))] H := hP
  have hD : va_D A [(q0, .inr (12, [.ref q1, .int 0, .ref q2, .ref q3, .ref q4, .int (nI n0), .int x1, .int x2, .int x3, .int x4, .int x5, .int x6, .int x7, .int x8, .int x9, .int x10, .int x11, .int x12, .int x13, .int x14, .int x15, .ref q5, .ref q6, .ref q7, .ref q8, .ref q9, .ref q10, .ref q11, .ref q12, .int x16, .ref q13, .ref q14, .ref q15, .ref q16, .int x17, .ref q17, .ref q18, .ref q19, .ref q20, .ref q21, .ref q22, .ref q23, .ref q24, .ref q25, .ref q26, .ref q27, .ref q28, .int x18, .ref q29, .ref q30, .int x19, .ref q31, .ref q32, .ref q33, .ref q34, .ref q35, .int x20, .int x21, .int x22, .int x23, .int x24, .int x25, .int x26, .int x27, .int x28, .int x29, .int x30, .int x31, .int x32, .int x33, .ref q36, .ref q37, .ref q38, .ref q39, .ref q40, .int x34, .int x35, .ref q41, .ref q42, .int x36, .ref q43])), (q2, .inl (k0, 3000, .inl f103))] := hD
  refine lv_aload_n hx hb dX12_feed_104 rfl (lv_at hl 2 rfl) ?_
  refine lv_dup hx hb dX12_feed_105 rfl ?_
  refine va_get (D := (dC, dI)) (ci := 12) (v := .int (nI n0)) (C := RX12) (T := TX12) (N := 81) hx hb hts (fun w h => mc (in_X12 w h)) hown hK hP 0 rfl rfl 5 (by decide) (hts _ (mc m_257)) (fun _ h9 => h9) rfl dX12_feed_106 ?_
  refine lv_iconst (v := 1) hx hb dX12_feed_109 (by decide) ?_
  refine lv_iadd hx hb dX12_feed_110 ?_
  refine q_topi (nI (n0 + 1)) (nI_add _ 1) ?_
  refine va_put (D := (dC, dI)) (ci := 12) (v := .int (nI (n0 + 1))) (ty := .int) (C := RX12) (T := TX12) (N := 81) hx hb hts (fun w h => mc (in_X12 w h)) tyX12 tyX12_ok nmX12 hown hK hP hD hS 0 rfl rfl 5 (by decide) (hts _ (mc m_257)) (fun _ h9 => h9) rfl (by decide +kernel) (by first | rfl | decide) (by first | rfl | decide) (Nat.le_of_ble_eq_true rfl) dX12_feed_111 (fun H locs hP hD hS => ?_)
  have hP : va_P (dC, dI) classes [(q0, .inr (12, [.ref q1, .int 0, .ref q2, .ref q3, .ref q4, .int (nI (n0 + 1)), .int x1, .int x2, .int x3, .int x4, .int x5, .int x6, .int x7, .int x8, .int x9, .int x10, .int x11, .int x12, .int x13, .int x14, .int x15, .ref q5, .ref q6, .ref q7, .ref q8, .ref q9, .ref q10, .ref q11, .ref q12, .int x16, .ref q13, .ref q14, .ref q15, .ref q16, .int x17, .ref q17, .ref q18, .ref q19, .ref q20, .ref q21, .ref q22, .ref q23, .ref q24, .ref q25, .ref q26, .ref q27, .ref q28, .int x18, .ref q29, .ref q30, .int x19, .ref q31, .ref q32, .ref q33, .ref q34, .ref q35, .int x20, .int x21, .int x22, .int x23, .int x24, .int x25, .int x26, .int x27, .int x28, .int x29, .int x30, .int x31, .int x32, .int x33, .ref q36, .ref q37, .ref q38, .ref q39, .ref q40, .int x34, .int x35, .ref q41, .ref q42, .int x36, .ref q43])), (q2, .inl (k0, 3000, .inl f103))] H := hP
  have hD : va_D A [(q0, .inr (12, [.ref q1, .int 0, .ref q2, .ref q3, .ref q4, .int (nI (n0 + 1)), .int x1, .int x2, .int x3, .int x4, .int x5, .int x6, .int x7, .int x8, .int x9, .int x10, .int x11, .int x12, .int x13, .int x14, .int x15, .ref q5, .ref q6, .ref q7, .ref q8, .ref q9, .ref q10, .ref q11, .ref q12, .int x16, .ref q13, .ref q14, .ref q15, .ref q16, .int x17, .ref q17, .ref q18, .ref q19, .ref q20, .ref q21, .ref q22, .ref q23, .ref q24, .ref q25, .ref q26, .ref q27, .ref q28, .int x18, .ref q29, .ref q30, .int x19, .ref q31, .ref q32, .ref q33, .ref q34, .ref q35, .int x20, .int x21, .int x22, .int x23, .int x24, .int x25, .int x26, .int x27, .int x28, .int x29, .int x30, .int x31, .int x32, .int x33, .ref q36, .ref q37, .ref q38, .ref q39, .ref q40, .int x34, .int x35, .ref q41, .ref q42, .int x36, .ref q43])), (q2, .inl (k0, 3000, .inl f103))] := hD
  refine lv_iinc (v := 1) (lv' := [(6, .int 1), (7, .int p0), (0, .ref q0), (1, .int p0), (2, .int p1), (3, .int p2), (4, .int p3), (5, .int p4)]) hx hb dX12_feed_114 hl (k := 1) rfl (by decide) (by decide) rfl (fun ls hl => ?_)
  refine lv_goto (tgt := 23) hx hb dX12_feed_117 (by decide) ?_
  refine lv_iload hx hb dX12_feed_23 (lv_at hl 0 rfl) ?_
  refine lv_bipush (v := 20) hx hb dX12_feed_25 (by decide) ?_
  refine lv_icmp_ge (tgt := 120) hx hb dX12_feed_27 (by decide) (fun c9 => absurd c9 (by decide)) (fun _ => ?_)
  refine lv_iload hx hb dX12_feed_30 (lv_at hl 0 rfl) ?_
  refine lv_iconst (v := 4) hx hb dX12_feed_32 (by decide) ?_
  refine lv_icmp_ge (tgt := 40) hx hb dX12_feed_33 (by decide) (fun c9 => absurd c9 (by decide)) (fun _ => ?_)
  refine lv_iload_n hx hb dX12_feed_36 rfl (lv_at hl 3 rfl) ?_
  refine lv_goto (tgt := 76) hx hb dX12_feed_37 (by decide) ?_
  refine lv_istore (lv' := [(7, .int p0), (6, .int 1), (0, .ref q0), (1, .int p0), (2, .int p1), (3, .int p2), (4, .int p3), (5, .int p4)]) hx hb dX12_feed_76 hl (by decide) rfl (fun ls hl => ?_)
  refine lv_aload_n hx hb dX12_feed_78 rfl (lv_at hl 2 rfl) ?_
  refine va_get (D := (dC, dI)) (ci := 12) (v := .ref q2) (C := RX12) (T := TX12) (N := 81) hx hb hts (fun w h => mc (in_X12 w h)) hown hK hP 0 rfl rfl 2 (by decide) (hts _ (mc m_203)) (fun _ h9 => h9) rfl dX12_feed_79 ?_
  refine lv_aload_n hx hb dX12_feed_82 rfl (lv_at hl 2 rfl) ?_
  refine va_get (D := (dC, dI)) (ci := 12) (v := .int (nI (n0 + 1))) (C := RX12) (T := TX12) (N := 81) hx hb hts (fun w h => mc (in_X12 w h)) hown hK hP 0 rfl rfl 5 (by decide) (hts _ (mc m_257)) (fun _ h9 => h9) rfl dX12_feed_83 ?_
  refine lv_iload hx hb dX12_feed_86 (lv_at hl 0 rfl) ?_
  refine lv_bipush (v := 24) hx hb dX12_feed_88 (by decide) ?_
  refine lv_bipush (v := 8) hx hb dX12_feed_90 (by decide) ?_
  refine lv_iload hx hb dX12_feed_92 (lv_at hl 1 rfl) ?_
  refine lv_iconst (v := 4) hx hb dX12_feed_94 (by decide) ?_
  refine lv_irem hx hb dX12_feed_95 (by decide) ?_
  refine q_topi 1 (by decide) ?_
  refine lv_imul hx hb dX12_feed_96 ?_
  refine q_topi 8 (by decide) ?_
  refine lv_isub hx hb dX12_feed_97 ?_
  refine q_topi 16 (by decide) ?_
  refine lv_ishr hx hb dX12_feed_98 ?_
  refine lv_topi (fun x104 ex104 => ?_)
  refine lv_sipush (v := 255) hx hb dX12_feed_99 (by decide) ?_
  refine lv_iand hx hb dX12_feed_102 ?_
  refine lv_topi (fun x105 ex105 => ?_)
  refine va_iast hx hb hK hP hD hS 1 0 rfl rfl (vp_in_nI (by omega) (by decide)) dX12_feed_103 (fun H locs hP hD hS => ?_)
  have hP : va_P (dC, dI) classes [(q0, .inr (12, [.ref q1, .int 0, .ref q2, .ref q3, .ref q4, .int (nI (n0 + 1)), .int x1, .int x2, .int x3, .int x4, .int x5, .int x6, .int x7, .int x8, .int x9, .int x10, .int x11, .int x12, .int x13, .int x14, .int x15, .ref q5, .ref q6, .ref q7, .ref q8, .ref q9, .ref q10, .ref q11, .ref q12, .int x16, .ref q13, .ref q14, .ref q15, .ref q16, .int x17, .ref q17, .ref q18, .ref q19, .ref q20, .ref q21, .ref q22, .ref q23, .ref q24, .ref q25, .ref q26, .ref q27, .ref q28, .int x18, .ref q29, .ref q30, .int x19, .ref q31, .ref q32, .ref q33, .ref q34, .ref q35, .int x20, .int x21, .int x22, .int x23, .int x24, .int x25, .int x26, .int x27, .int x28, .int x29, .int x30, .int x31, .int x32, .int x33, .ref q36, .ref q37, .ref q38, .ref q39, .ref q40, .int x34, .int x35, .ref q41, .ref q42, .int x36, .ref q43])), (q2, .inl (k0, 3000, .inl (upd f103 (Int32.toNatClampNeg (nI (n0 + 1))) x105)))] H := hP
  have hD : va_D A [(q0, .inr (12, [.ref q1, .int 0, .ref q2, .ref q3, .ref q4, .int (nI (n0 + 1)), .int x1, .int x2, .int x3, .int x4, .int x5, .int x6, .int x7, .int x8, .int x9, .int x10, .int x11, .int x12, .int x13, .int x14, .int x15, .ref q5, .ref q6, .ref q7, .ref q8, .ref q9, .ref q10, .ref q11, .ref q12, .int x16, .ref q13, .ref q14, .ref q15, .ref q16, .int x17, .ref q17, .ref q18, .ref q19, .ref q20, .ref q21, .ref q22, .ref q23, .ref q24, .ref q25, .ref q26, .ref q27, .ref q28, .int x18, .ref q29, .ref q30, .int x19, .ref q31, .ref q32, .ref q33, .ref q34, .ref q35, .int x20, .int x21, .int x22, .int x23, .int x24, .int x25, .int x26, .int x27, .int x28, .int x29, .int x30, .int x31, .int x32, .int x33, .ref q36, .ref q37, .ref q38, .ref q39, .ref q40, .int x34, .int x35, .ref q41, .ref q42, .int x36, .ref q43])), (q2, .inl (k0, 3000, .inl (upd f103 (Int32.toNatClampNeg (nI (n0 + 1))) x105)))] := hD
  obtain ⟨f106, ef106⟩ : ∃ z : Nat → Int32, z = (upd f103 (Int32.toNatClampNeg (nI (n0 + 1))) x105) := ⟨_, rfl⟩
  rw [← ef106] at hP hD
  have hP : va_P (dC, dI) classes [(q0, .inr (12, [.ref q1, .int 0, .ref q2, .ref q3, .ref q4, .int (nI (n0 + 1)), .int x1, .int x2, .int x3, .int x4, .int x5, .int x6, .int x7, .int x8, .int x9, .int x10, .int x11, .int x12, .int x13, .int x14, .int x15, .ref q5, .ref q6, .ref q7, .ref q8, .ref q9, .ref q10, .ref q11, .ref q12, .int x16, .ref q13, .ref q14, .ref q15, .ref q16, .int x17, .ref q17, .ref q18, .ref q19, .ref q20, .ref q21, .ref q22, .ref q23, .ref q24, .ref q25, .ref q26, .ref q27, .ref q28, .int x18, .ref q29, .ref q30, .int x19, .ref q31, .ref q32, .ref q33, .ref q34, .ref q35, .int x20, .int x21, .int x22, .int x23, .int x24, .int x25, .int x26, .int x27, .int x28, .int x29, .int x30, .int x31, .int x32, .int x33, .ref q36, .ref q37, .ref q38, .ref q39, .ref q40, .int x34, .int x35, .ref q41, .ref q42, .int x36, .ref q43])), (q2, .inl (k0, 3000, .inl f106))] H := hP
  have hD : va_D A [(q0, .inr (12, [.ref q1, .int 0, .ref q2, .ref q3, .ref q4, .int (nI (n0 + 1)), .int x1, .int x2, .int x3, .int x4, .int x5, .int x6, .int x7, .int x8, .int x9, .int x10, .int x11, .int x12, .int x13, .int x14, .int x15, .ref q5, .ref q6, .ref q7, .ref q8, .ref q9, .ref q10, .ref q11, .ref q12, .int x16, .ref q13, .ref q14, .ref q15, .ref q16, .int x17, .ref q17, .ref q18, .ref q19, .ref q20, .ref q21, .ref q22, .ref q23, .ref q24, .ref q25, .ref q26, .ref q27, .ref q28, .int x18, .ref q29, .ref q30, .int x19, .ref q31, .ref q32, .ref q33, .ref q34, .ref q35, .int x20, .int x21, .int x22, .int x23, .int x24, .int x25, .int x26, .int x27, .int x28, .int x29, .int x30, .int x31, .int x32, .int x33, .ref q36, .ref q37, .ref q38, .ref q39, .ref q40, .int x34, .int x35, .ref q41, .ref q42, .int x36, .ref q43])), (q2, .inl (k0, 3000, .inl f106))] := hD
  refine lv_aload_n hx hb dX12_feed_104 rfl (lv_at hl 2 rfl) ?_
  refine lv_dup hx hb dX12_feed_105 rfl ?_
  refine va_get (D := (dC, dI)) (ci := 12) (v := .int (nI (n0 + 1))) (C := RX12) (T := TX12) (N := 81) hx hb hts (fun w h => mc (in_X12 w h)) hown hK hP 0 rfl rfl 5 (by decide) (hts _ (mc m_257)) (fun _ h9 => h9) rfl dX12_feed_106 ?_
  refine lv_iconst (v := 1) hx hb dX12_feed_109 (by decide) ?_
  refine lv_iadd hx hb dX12_feed_110 ?_
  refine q_topi (nI (n0 + 2)) (nI_add _ 1) ?_
  refine va_put (D := (dC, dI)) (ci := 12) (v := .int (nI (n0 + 2))) (ty := .int) (C := RX12) (T := TX12) (N := 81) hx hb hts (fun w h => mc (in_X12 w h)) tyX12 tyX12_ok nmX12 hown hK hP hD hS 0 rfl rfl 5 (by decide) (hts _ (mc m_257)) (fun _ h9 => h9) rfl (by decide +kernel) (by first | rfl | decide) (by first | rfl | decide) (Nat.le_of_ble_eq_true rfl) dX12_feed_111 (fun H locs hP hD hS => ?_)
  have hP : va_P (dC, dI) classes [(q0, .inr (12, [.ref q1, .int 0, .ref q2, .ref q3, .ref q4, .int (nI (n0 + 2)), .int x1, .int x2, .int x3, .int x4, .int x5, .int x6, .int x7, .int x8, .int x9, .int x10, .int x11, .int x12, .int x13, .int x14, .int x15, .ref q5, .ref q6, .ref q7, .ref q8, .ref q9, .ref q10, .ref q11, .ref q12, .int x16, .ref q13, .ref q14, .ref q15, .ref q16, .int x17, .ref q17, .ref q18, .ref q19, .ref q20, .ref q21, .ref q22, .ref q23, .ref q24, .ref q25, .ref q26, .ref q27, .ref q28, .int x18, .ref q29, .ref q30, .int x19, .ref q31, .ref q32, .ref q33, .ref q34, .ref q35, .int x20, .int x21, .int x22, .int x23, .int x24, .int x25, .int x26, .int x27, .int x28, .int x29, .int x30, .int x31, .int x32, .int x33, .ref q36, .ref q37, .ref q38, .ref q39, .ref q40, .int x34, .int x35, .ref q41, .ref q42, .int x36, .ref q43])), (q2, .inl (k0, 3000, .inl f106))] H := hP
  have hD : va_D A [(q0, .inr (12, [.ref q1, .int 0, .ref q2, .ref q3, .ref q4, .int (nI (n0 + 2)), .int x1, .int x2, .int x3, .int x4, .int x5, .int x6, .int x7, .int x8, .int x9, .int x10, .int x11, .int x12, .int x13, .int x14, .int x15, .ref q5, .ref q6, .ref q7, .ref q8, .ref q9, .ref q10, .ref q11, .ref q12, .int x16, .ref q13, .ref q14, .ref q15, .ref q16, .int x17, .ref q17, .ref q18, .ref q19, .ref q20, .ref q21, .ref q22, .ref q23, .ref q24, .ref q25, .ref q26, .ref q27, .ref q28, .int x18, .ref q29, .ref q30, .int x19, .ref q31, .ref q32, .ref q33, .ref q34, .ref q35, .int x20, .int x21, .int x22, .int x23, .int x24, .int x25, .int x26, .int x27, .int x28, .int x29, .int x30, .int x31, .int x32, .int x33, .ref q36, .ref q37, .ref q38, .ref q39, .ref q40, .int x34, .int x35, .ref q41, .ref q42, .int x36, .ref q43])), (q2, .inl (k0, 3000, .inl f106))] := hD
  refine lv_iinc (v := 2) (lv' := [(6, .int 2), (7, .int p0), (0, .ref q0), (1, .int p0), (2, .int p1), (3, .int p2), (4, .int p3), (5, .int p4)]) hx hb dX12_feed_114 hl (k := 1) rfl (by decide) (by decide) rfl (fun ls hl => ?_)
  refine lv_goto (tgt := 23) hx hb dX12_feed_117 (by decide) ?_
  refine lv_iload hx hb dX12_feed_23 (lv_at hl 0 rfl) ?_
  refine lv_bipush (v := 20) hx hb dX12_feed_25 (by decide) ?_
  refine lv_icmp_ge (tgt := 120) hx hb dX12_feed_27 (by decide) (fun c9 => absurd c9 (by decide)) (fun _ => ?_)
  refine lv_iload hx hb dX12_feed_30 (lv_at hl 0 rfl) ?_
  refine lv_iconst (v := 4) hx hb dX12_feed_32 (by decide) ?_
  refine lv_icmp_ge (tgt := 40) hx hb dX12_feed_33 (by decide) (fun c9 => absurd c9 (by decide)) (fun _ => ?_)
  refine lv_iload_n hx hb dX12_feed_36 rfl (lv_at hl 3 rfl) ?_
  refine lv_goto (tgt := 76) hx hb dX12_feed_37 (by decide) ?_
  refine lv_istore (lv' := [(7, .int p0), (6, .int 2), (0, .ref q0), (1, .int p0), (2, .int p1), (3, .int p2), (4, .int p3), (5, .int p4)]) hx hb dX12_feed_76 hl (by decide) rfl (fun ls hl => ?_)
  refine lv_aload_n hx hb dX12_feed_78 rfl (lv_at hl 2 rfl) ?_
  refine va_get (D := (dC, dI)) (ci := 12) (v := .ref q2) (C := RX12) (T := TX12) (N := 81) hx hb hts (fun w h => mc (in_X12 w h)) hown hK hP 0 rfl rfl 2 (by decide) (hts _ (mc m_203)) (fun _ h9 => h9) rfl dX12_feed_79 ?_
  refine lv_aload_n hx hb dX12_feed_82 rfl (lv_at hl 2 rfl) ?_
  refine va_get (D := (dC, dI)) (ci := 12) (v := .int (nI (n0 + 2))) (C := RX12) (T := TX12) (N := 81) hx hb hts (fun w h => mc (in_X12 w h)) hown hK hP 0 rfl rfl 5 (by decide) (hts _ (mc m_257)) (fun _ h9 => h9) rfl dX12_feed_83 ?_
  refine lv_iload hx hb dX12_feed_86 (lv_at hl 0 rfl) ?_
  refine lv_bipush (v := 24) hx hb dX12_feed_88 (by decide) ?_
  refine lv_bipush (v := 8) hx hb dX12_feed_90 (by decide) ?_
  refine lv_iload hx hb dX12_feed_92 (lv_at hl 1 rfl) ?_
  refine lv_iconst (v := 4) hx hb dX12_feed_94 (by decide) ?_
  refine lv_irem hx hb dX12_feed_95 (by decide) ?_
  refine q_topi 2 (by decide) ?_
  refine lv_imul hx hb dX12_feed_96 ?_
  refine q_topi 16 (by decide) ?_
  refine lv_isub hx hb dX12_feed_97 ?_
  refine q_topi 8 (by decide) ?_
  refine lv_ishr hx hb dX12_feed_98 ?_
  refine lv_topi (fun x107 ex107 => ?_)
  refine lv_sipush (v := 255) hx hb dX12_feed_99 (by decide) ?_
  refine lv_iand hx hb dX12_feed_102 ?_
  refine lv_topi (fun x108 ex108 => ?_)
  refine va_iast hx hb hK hP hD hS 1 0 rfl rfl (vp_in_nI (by omega) (by decide)) dX12_feed_103 (fun H locs hP hD hS => ?_)
  have hP : va_P (dC, dI) classes [(q0, .inr (12, [.ref q1, .int 0, .ref q2, .ref q3, .ref q4, .int (nI (n0 + 2)), .int x1, .int x2, .int x3, .int x4, .int x5, .int x6, .int x7, .int x8, .int x9, .int x10, .int x11, .int x12, .int x13, .int x14, .int x15, .ref q5, .ref q6, .ref q7, .ref q8, .ref q9, .ref q10, .ref q11, .ref q12, .int x16, .ref q13, .ref q14, .ref q15, .ref q16, .int x17, .ref q17, .ref q18, .ref q19, .ref q20, .ref q21, .ref q22, .ref q23, .ref q24, .ref q25, .ref q26, .ref q27, .ref q28, .int x18, .ref q29, .ref q30, .int x19, .ref q31, .ref q32, .ref q33, .ref q34, .ref q35, .int x20, .int x21, .int x22, .int x23, .int x24, .int x25, .int x26, .int x27, .int x28, .int x29, .int x30, .int x31, .int x32, .int x33, .ref q36, .ref q37, .ref q38, .ref q39, .ref q40, .int x34, .int x35, .ref q41, .ref q42, .int x36, .ref q43])), (q2, .inl (k0, 3000, .inl (upd f106 (Int32.toNatClampNeg (nI (n0 + 2))) x108)))] H := hP
  have hD : va_D A [(q0, .inr (12, [.ref q1, .int 0, .ref q2, .ref q3, .ref q4, .int (nI (n0 + 2)), .int x1, .int x2, .int x3, .int x4, .int x5, .int x6, .int x7, .int x8, .int x9, .int x10, .int x11, .int x12, .int x13, .int x14, .int x15, .ref q5, .ref q6, .ref q7, .ref q8, .ref q9, .ref q10, .ref q11, .ref q12, .int x16, .ref q13, .ref q14, .ref q15, .ref q16, .int x17, .ref q17, .ref q18, .ref q19, .ref q20, .ref q21, .ref q22, .ref q23, .ref q24, .ref q25, .ref q26, .ref q27, .ref q28, .int x18, .ref q29, .ref q30, .int x19, .ref q31, .ref q32, .ref q33, .ref q34, .ref q35, .int x20, .int x21, .int x22, .int x23, .int x24, .int x25, .int x26, .int x27, .int x28, .int x29, .int x30, .int x31, .int x32, .int x33, .ref q36, .ref q37, .ref q38, .ref q39, .ref q40, .int x34, .int x35, .ref q41, .ref q42, .int x36, .ref q43])), (q2, .inl (k0, 3000, .inl (upd f106 (Int32.toNatClampNeg (nI (n0 + 2))) x108)))] := hD
  obtain ⟨f109, ef109⟩ : ∃ z : Nat → Int32, z = (upd f106 (Int32.toNatClampNeg (nI (n0 + 2))) x108) := ⟨_, rfl⟩
  rw [← ef109] at hP hD
  have hP : va_P (dC, dI) classes [(q0, .inr (12, [.ref q1, .int 0, .ref q2, .ref q3, .ref q4, .int (nI (n0 + 2)), .int x1, .int x2, .int x3, .int x4, .int x5, .int x6, .int x7, .int x8, .int x9, .int x10, .int x11, .int x12, .int x13, .int x14, .int x15, .ref q5, .ref q6, .ref q7, .ref q8, .ref q9, .ref q10, .ref q11, .ref q12, .int x16, .ref q13, .ref q14, .ref q15, .ref q16, .int x17, .ref q17, .ref q18, .ref q19, .ref q20, .ref q21, .ref q22, .ref q23, .ref q24, .ref q25, .ref q26, .ref q27, .ref q28, .int x18, .ref q29, .ref q30, .int x19, .ref q31, .ref q32, .ref q33, .ref q34, .ref q35, .int x20, .int x21, .int x22, .int x23, .int x24, .int x25, .int x26, .int x27, .int x28, .int x29, .int x30, .int x31, .int x32, .int x33, .ref q36, .ref q37, .ref q38, .ref q39, .ref q40, .int x34, .int x35, .ref q41, .ref q42, .int x36, .ref q43])), (q2, .inl (k0, 3000, .inl f109))] H := hP
  have hD : va_D A [(q0, .inr (12, [.ref q1, .int 0, .ref q2, .ref q3, .ref q4, .int (nI (n0 + 2)), .int x1, .int x2, .int x3, .int x4, .int x5, .int x6, .int x7, .int x8, .int x9, .int x10, .int x11, .int x12, .int x13, .int x14, .int x15, .ref q5, .ref q6, .ref q7, .ref q8, .ref q9, .ref q10, .ref q11, .ref q12, .int x16, .ref q13, .ref q14, .ref q15, .ref q16, .int x17, .ref q17, .ref q18, .ref q19, .ref q20, .ref q21, .ref q22, .ref q23, .ref q24, .ref q25, .ref q26, .ref q27, .ref q28, .int x18, .ref q29, .ref q30, .int x19, .ref q31, .ref q32, .ref q33, .ref q34, .ref q35, .int x20, .int x21, .int x22, .int x23, .int x24, .int x25, .int x26, .int x27, .int x28, .int x29, .int x30, .int x31, .int x32, .int x33, .ref q36, .ref q37, .ref q38, .ref q39, .ref q40, .int x34, .int x35, .ref q41, .ref q42, .int x36, .ref q43])), (q2, .inl (k0, 3000, .inl f109))] := hD
  refine lv_aload_n hx hb dX12_feed_104 rfl (lv_at hl 2 rfl) ?_
  refine lv_dup hx hb dX12_feed_105 rfl ?_
  refine va_get (D := (dC, dI)) (ci := 12) (v := .int (nI (n0 + 2))) (C := RX12) (T := TX12) (N := 81) hx hb hts (fun w h => mc (in_X12 w h)) hown hK hP 0 rfl rfl 5 (by decide) (hts _ (mc m_257)) (fun _ h9 => h9) rfl dX12_feed_106 ?_
  refine lv_iconst (v := 1) hx hb dX12_feed_109 (by decide) ?_
  refine lv_iadd hx hb dX12_feed_110 ?_
  refine q_topi (nI (n0 + 3)) (nI_add _ 1) ?_
  refine va_put (D := (dC, dI)) (ci := 12) (v := .int (nI (n0 + 3))) (ty := .int) (C := RX12) (T := TX12) (N := 81) hx hb hts (fun w h => mc (in_X12 w h)) tyX12 tyX12_ok nmX12 hown hK hP hD hS 0 rfl rfl 5 (by decide) (hts _ (mc m_257)) (fun _ h9 => h9) rfl (by decide +kernel) (by first | rfl | decide) (by first | rfl | decide) (Nat.le_of_ble_eq_true rfl) dX12_feed_111 (fun H locs hP hD hS => ?_)
  have hP : va_P (dC, dI) classes [(q0, .inr (12, [.ref q1, .int 0, .ref q2, .ref q3, .ref q4, .int (nI (n0 + 3)), .int x1, .int x2, .int x3, .int x4, .int x5, .int x6, .int x7, .int x8, .int x9, .int x10, .int x11, .int x12, .int x13, .int x14, .int x15, .ref q5, .ref q6, .ref q7, .ref q8, .ref q9, .ref q10, .ref q11, .ref q12, .int x16, .ref q13, .ref q14, .ref q15, .ref q16, .int x17, .ref q17, .ref q18, .ref q19, .ref q20, .ref q21, .ref q22, .ref q23, .ref q24, .ref q25, .ref q26, .ref q27, .ref q28, .int x18, .ref q29, .ref q30, .int x19, .ref q31, .ref q32, .ref q33, .ref q34, .ref q35, .int x20, .int x21, .int x22, .int x23, .int x24, .int x25, .int x26, .int x27, .int x28, .int x29, .int x30, .int x31, .int x32, .int x33, .ref q36, .ref q37, .ref q38, .ref q39, .ref q40, .int x34, .int x35, .ref q41, .ref q42, .int x36, .ref q43])), (q2, .inl (k0, 3000, .inl f109))] H := hP
  have hD : va_D A [(q0, .inr (12, [.ref q1, .int 0, .ref q2, .ref q3, .ref q4, .int (nI (n0 + 3)), .int x1, .int x2, .int x3, .int x4, .int x5, .int x6, .int x7, .int x8, .int x9, .int x10, .int x11, .int x12, .int x13, .int x14, .int x15, .ref q5, .ref q6, .ref q7, .ref q8, .ref q9, .ref q10, .ref q11, .ref q12, .int x16, .ref q13, .ref q14, .ref q15, .ref q16, .int x17, .ref q17, .ref q18, .ref q19, .ref q20, .ref q21, .ref q22, .ref q23, .ref q24, .ref q25, .ref q26, .ref q27, .ref q28, .int x18, .ref q29, .ref q30, .int x19, .ref q31, .ref q32, .ref q33, .ref q34, .ref q35, .int x20, .int x21, .int x22, .int x23, .int x24, .int x25, .int x26, .int x27, .int x28, .int x29, .int x30, .int x31, .int x32, .int x33, .ref q36, .ref q37, .ref q38, .ref q39, .ref q40, .int x34, .int x35, .ref q41, .ref q42, .int x36, .ref q43])), (q2, .inl (k0, 3000, .inl f109))] := hD
  refine lv_iinc (v := 3) (lv' := [(6, .int 3), (7, .int p0), (0, .ref q0), (1, .int p0), (2, .int p1), (3, .int p2), (4, .int p3), (5, .int p4)]) hx hb dX12_feed_114 hl (k := 1) rfl (by decide) (by decide) rfl (fun ls hl => ?_)
  refine lv_goto (tgt := 23) hx hb dX12_feed_117 (by decide) ?_
  refine lv_iload hx hb dX12_feed_23 (lv_at hl 0 rfl) ?_
  refine lv_bipush (v := 20) hx hb dX12_feed_25 (by decide) ?_
  refine lv_icmp_ge (tgt := 120) hx hb dX12_feed_27 (by decide) (fun c9 => absurd c9 (by decide)) (fun _ => ?_)
  refine lv_iload hx hb dX12_feed_30 (lv_at hl 0 rfl) ?_
  refine lv_iconst (v := 4) hx hb dX12_feed_32 (by decide) ?_
  refine lv_icmp_ge (tgt := 40) hx hb dX12_feed_33 (by decide) (fun c9 => absurd c9 (by decide)) (fun _ => ?_)
  refine lv_iload_n hx hb dX12_feed_36 rfl (lv_at hl 3 rfl) ?_
  refine lv_goto (tgt := 76) hx hb dX12_feed_37 (by decide) ?_
  refine lv_istore (lv' := [(7, .int p0), (6, .int 3), (0, .ref q0), (1, .int p0), (2, .int p1), (3, .int p2), (4, .int p3), (5, .int p4)]) hx hb dX12_feed_76 hl (by decide) rfl (fun ls hl => ?_)
  refine lv_aload_n hx hb dX12_feed_78 rfl (lv_at hl 2 rfl) ?_
  refine va_get (D := (dC, dI)) (ci := 12) (v := .ref q2) (C := RX12) (T := TX12) (N := 81) hx hb hts (fun w h => mc (in_X12 w h)) hown hK hP 0 rfl rfl 2 (by decide) (hts _ (mc m_203)) (fun _ h9 => h9) rfl dX12_feed_79 ?_
  refine lv_aload_n hx hb dX12_feed_82 rfl (lv_at hl 2 rfl) ?_
  refine va_get (D := (dC, dI)) (ci := 12) (v := .int (nI (n0 + 3))) (C := RX12) (T := TX12) (N := 81) hx hb hts (fun w h => mc (in_X12 w h)) hown hK hP 0 rfl rfl 5 (by decide) (hts _ (mc m_257)) (fun _ h9 => h9) rfl dX12_feed_83 ?_
  refine lv_iload hx hb dX12_feed_86 (lv_at hl 0 rfl) ?_
  refine lv_bipush (v := 24) hx hb dX12_feed_88 (by decide) ?_
  refine lv_bipush (v := 8) hx hb dX12_feed_90 (by decide) ?_
  refine lv_iload hx hb dX12_feed_92 (lv_at hl 1 rfl) ?_
  refine lv_iconst (v := 4) hx hb dX12_feed_94 (by decide) ?_
  refine lv_irem hx hb dX12_feed_95 (by decide) ?_
  refine q_topi 3 (by decide) ?_
  refine lv_imul hx hb dX12_feed_96 ?_
  refine q_topi 24 (by decide) ?_
  refine lv_isub hx hb dX12_feed_97 ?_
  refine q_topi 0 (by decide) ?_
  refine lv_ishr hx hb dX12_feed_98 ?_
  refine lv_topi (fun x110 ex110 => ?_)
  refine lv_sipush (v := 255) hx hb dX12_feed_99 (by decide) ?_
  refine lv_iand hx hb dX12_feed_102 ?_
  refine lv_topi (fun x111 ex111 => ?_)
  refine va_iast hx hb hK hP hD hS 1 0 rfl rfl (vp_in_nI (by omega) (by decide)) dX12_feed_103 (fun H locs hP hD hS => ?_)
  have hP : va_P (dC, dI) classes [(q0, .inr (12, [.ref q1, .int 0, .ref q2, .ref q3, .ref q4, .int (nI (n0 + 3)), .int x1, .int x2, .int x3, .int x4, .int x5, .int x6, .int x7, .int x8, .int x9, .int x10, .int x11, .int x12, .int x13, .int x14, .int x15, .ref q5, .ref q6, .ref q7, .ref q8, .ref q9, .ref q10, .ref q11, .ref q12, .int x16, .ref q13, .ref q14, .ref q15, .ref q16, .int x17, .ref q17, .ref q18, .ref q19, .ref q20, .ref q21, .ref q22, .ref q23, .ref q24, .ref q25, .ref q26, .ref q27, .ref q28, .int x18, .ref q29, .ref q30, .int x19, .ref q31, .ref q32, .ref q33, .ref q34, .ref q35, .int x20, .int x21, .int x22, .int x23, .int x24, .int x25, .int x26, .int x27, .int x28, .int x29, .int x30, .int x31, .int x32, .int x33, .ref q36, .ref q37, .ref q38, .ref q39, .ref q40, .int x34, .int x35, .ref q41, .ref q42, .int x36, .ref q43])), (q2, .inl (k0, 3000, .inl (upd f109 (Int32.toNatClampNeg (nI (n0 + 3))) x111)))] H := hP
  have hD : va_D A [(q0, .inr (12, [.ref q1, .int 0, .ref q2, .ref q3, .ref q4, .int (nI (n0 + 3)), .int x1, .int x2, .int x3, .int x4, .int x5, .int x6, .int x7, .int x8, .int x9, .int x10, .int x11, .int x12, .int x13, .int x14, .int x15, .ref q5, .ref q6, .ref q7, .ref q8, .ref q9, .ref q10, .ref q11, .ref q12, .int x16, .ref q13, .ref q14, .ref q15, .ref q16, .int x17, .ref q17, .ref q18, .ref q19, .ref q20, .ref q21, .ref q22, .ref q23, .ref q24, .ref q25, .ref q26, .ref q27, .ref q28, .int x18, .ref q29, .ref q30, .int x19, .ref q31, .ref q32, .ref q33, .ref q34, .ref q35, .int x20, .int x21, .int x22, .int x23, .int x24, .int x25, .int x26, .int x27, .int x28, .int x29, .int x30, .int x31, .int x32, .int x33, .ref q36, .ref q37, .ref q38, .ref q39, .ref q40, .int x34, .int x35, .ref q41, .ref q42, .int x36, .ref q43])), (q2, .inl (k0, 3000, .inl (upd f109 (Int32.toNatClampNeg (nI (n0 + 3))) x111)))] := hD
  obtain ⟨f112, ef112⟩ : ∃ z : Nat → Int32, z = (upd f109 (Int32.toNatClampNeg (nI (n0 + 3))) x111) := ⟨_, rfl⟩
  rw [← ef112] at hP hD
  have hP : va_P (dC, dI) classes [(q0, .inr (12, [.ref q1, .int 0, .ref q2, .ref q3, .ref q4, .int (nI (n0 + 3)), .int x1, .int x2, .int x3, .int x4, .int x5, .int x6, .int x7, .int x8, .int x9, .int x10, .int x11, .int x12, .int x13, .int x14, .int x15, .ref q5, .ref q6, .ref q7, .ref q8, .ref q9, .ref q10, .ref q11, .ref q12, .int x16, .ref q13, .ref q14, .ref q15, .ref q16, .int x17, .ref q17, .ref q18, .ref q19, .ref q20, .ref q21, .ref q22, .ref q23, .ref q24, .ref q25, .ref q26, .ref q27, .ref q28, .int x18, .ref q29, .ref q30, .int x19, .ref q31, .ref q32, .ref q33, .ref q34, .ref q35, .int x20, .int x21, .int x22, .int x23, .int x24, .int x25, .int x26, .int x27, .int x28, .int x29, .int x30, .int x31, .int x32, .int x33, .ref q36, .ref q37, .ref q38, .ref q39, .ref q40, .int x34, .int x35, .ref q41, .ref q42, .int x36, .ref q43])), (q2, .inl (k0, 3000, .inl f112))] H := hP
  have hD : va_D A [(q0, .inr (12, [.ref q1, .int 0, .ref q2, .ref q3, .ref q4, .int (nI (n0 + 3)), .int x1, .int x2, .int x3, .int x4, .int x5, .int x6, .int x7, .int x8, .int x9, .int x10, .int x11, .int x12, .int x13, .int x14, .int x15, .ref q5, .ref q6, .ref q7, .ref q8, .ref q9, .ref q10, .ref q11, .ref q12, .int x16, .ref q13, .ref q14, .ref q15, .ref q16, .int x17, .ref q17, .ref q18, .ref q19, .ref q20, .ref q21, .ref q22, .ref q23, .ref q24, .ref q25, .ref q26, .ref q27, .ref q28, .int x18, .ref q29, .ref q30, .int x19, .ref q31, .ref q32, .ref q33, .ref q34, .ref q35, .int x20, .int x21, .int x22, .int x23, .int x24, .int x25, .int x26, .int x27, .int x28, .int x29, .int x30, .int x31, .int x32, .int x33, .ref q36, .ref q37, .ref q38, .ref q39, .ref q40, .int x34, .int x35, .ref q41, .ref q42, .int x36, .ref q43])), (q2, .inl (k0, 3000, .inl f112))] := hD
  refine lv_aload_n hx hb dX12_feed_104 rfl (lv_at hl 2 rfl) ?_
  refine lv_dup hx hb dX12_feed_105 rfl ?_
  refine va_get (D := (dC, dI)) (ci := 12) (v := .int (nI (n0 + 3))) (C := RX12) (T := TX12) (N := 81) hx hb hts (fun w h => mc (in_X12 w h)) hown hK hP 0 rfl rfl 5 (by decide) (hts _ (mc m_257)) (fun _ h9 => h9) rfl dX12_feed_106 ?_
  refine lv_iconst (v := 1) hx hb dX12_feed_109 (by decide) ?_
  refine lv_iadd hx hb dX12_feed_110 ?_
  refine q_topi (nI (n0 + 4)) (nI_add _ 1) ?_
  refine va_put (D := (dC, dI)) (ci := 12) (v := .int (nI (n0 + 4))) (ty := .int) (C := RX12) (T := TX12) (N := 81) hx hb hts (fun w h => mc (in_X12 w h)) tyX12 tyX12_ok nmX12 hown hK hP hD hS 0 rfl rfl 5 (by decide) (hts _ (mc m_257)) (fun _ h9 => h9) rfl (by decide +kernel) (by first | rfl | decide) (by first | rfl | decide) (Nat.le_of_ble_eq_true rfl) dX12_feed_111 (fun H locs hP hD hS => ?_)
  have hP : va_P (dC, dI) classes [(q0, .inr (12, [.ref q1, .int 0, .ref q2, .ref q3, .ref q4, .int (nI (n0 + 4)), .int x1, .int x2, .int x3, .int x4, .int x5, .int x6, .int x7, .int x8, .int x9, .int x10, .int x11, .int x12, .int x13, .int x14, .int x15, .ref q5, .ref q6, .ref q7, .ref q8, .ref q9, .ref q10, .ref q11, .ref q12, .int x16, .ref q13, .ref q14, .ref q15, .ref q16, .int x17, .ref q17, .ref q18, .ref q19, .ref q20, .ref q21, .ref q22, .ref q23, .ref q24, .ref q25, .ref q26, .ref q27, .ref q28, .int x18, .ref q29, .ref q30, .int x19, .ref q31, .ref q32, .ref q33, .ref q34, .ref q35, .int x20, .int x21, .int x22, .int x23, .int x24, .int x25, .int x26, .int x27, .int x28, .int x29, .int x30, .int x31, .int x32, .int x33, .ref q36, .ref q37, .ref q38, .ref q39, .ref q40, .int x34, .int x35, .ref q41, .ref q42, .int x36, .ref q43])), (q2, .inl (k0, 3000, .inl f112))] H := hP
  have hD : va_D A [(q0, .inr (12, [.ref q1, .int 0, .ref q2, .ref q3, .ref q4, .int (nI (n0 + 4)), .int x1, .int x2, .int x3, .int x4, .int x5, .int x6, .int x7, .int x8, .int x9, .int x10, .int x11, .int x12, .int x13, .int x14, .int x15, .ref q5, .ref q6, .ref q7, .ref q8, .ref q9, .ref q10, .ref q11, .ref q12, .int x16, .ref q13, .ref q14, .ref q15, .ref q16, .int x17, .ref q17, .ref q18, .ref q19, .ref q20, .ref q21, .ref q22, .ref q23, .ref q24, .ref q25, .ref q26, .ref q27, .ref q28, .int x18, .ref q29, .ref q30, .int x19, .ref q31, .ref q32, .ref q33, .ref q34, .ref q35, .int x20, .int x21, .int x22, .int x23, .int x24, .int x25, .int x26, .int x27, .int x28, .int x29, .int x30, .int x31, .int x32, .int x33, .ref q36, .ref q37, .ref q38, .ref q39, .ref q40, .int x34, .int x35, .ref q41, .ref q42, .int x36, .ref q43])), (q2, .inl (k0, 3000, .inl f112))] := hD
  refine lv_iinc (v := 4) (lv' := [(6, .int 4), (7, .int p0), (0, .ref q0), (1, .int p0), (2, .int p1), (3, .int p2), (4, .int p3), (5, .int p4)]) hx hb dX12_feed_114 hl (k := 1) rfl (by decide) (by decide) rfl (fun ls hl => ?_)
  refine lv_goto (tgt := 23) hx hb dX12_feed_117 (by decide) ?_
  refine lv_iload hx hb dX12_feed_23 (lv_at hl 0 rfl) ?_
  refine lv_bipush (v := 20) hx hb dX12_feed_25 (by decide) ?_
  refine lv_icmp_ge (tgt := 120) hx hb dX12_feed_27 (by decide) (fun c9 => absurd c9 (by decide)) (fun _ => ?_)
  refine lv_iload hx hb dX12_feed_30 (lv_at hl 0 rfl) ?_
  refine lv_iconst (v := 4) hx hb dX12_feed_32 (by decide) ?_
  refine lv_icmp_ge (tgt := 40) hx hb dX12_feed_33 (by decide) (fun _ => ?_) (fun c9 => absurd (by decide) c9)
  refine lv_iload hx hb dX12_feed_40 (lv_at hl 0 rfl) ?_
  refine lv_bipush (v := 8) hx hb dX12_feed_42 (by decide) ?_
  refine lv_icmp_ge (tgt := 51) hx hb dX12_feed_44 (by decide) (fun c9 => absurd c9 (by decide)) (fun _ => ?_)
  refine lv_iload_n hx hb dX12_feed_47 rfl (lv_at hl 4 rfl) ?_
  refine lv_goto (tgt := 76) hx hb dX12_feed_48 (by decide) ?_
  refine lv_istore (lv' := [(7, .int p1), (6, .int 4), (0, .ref q0), (1, .int p0), (2, .int p1), (3, .int p2), (4, .int p3), (5, .int p4)]) hx hb dX12_feed_76 hl (by decide) rfl (fun ls hl => ?_)
  refine lv_aload_n hx hb dX12_feed_78 rfl (lv_at hl 2 rfl) ?_
  refine va_get (D := (dC, dI)) (ci := 12) (v := .ref q2) (C := RX12) (T := TX12) (N := 81) hx hb hts (fun w h => mc (in_X12 w h)) hown hK hP 0 rfl rfl 2 (by decide) (hts _ (mc m_203)) (fun _ h9 => h9) rfl dX12_feed_79 ?_
  refine lv_aload_n hx hb dX12_feed_82 rfl (lv_at hl 2 rfl) ?_
  refine va_get (D := (dC, dI)) (ci := 12) (v := .int (nI (n0 + 4))) (C := RX12) (T := TX12) (N := 81) hx hb hts (fun w h => mc (in_X12 w h)) hown hK hP 0 rfl rfl 5 (by decide) (hts _ (mc m_257)) (fun _ h9 => h9) rfl dX12_feed_83 ?_
  refine lv_iload hx hb dX12_feed_86 (lv_at hl 0 rfl) ?_
  refine lv_bipush (v := 24) hx hb dX12_feed_88 (by decide) ?_
  refine lv_bipush (v := 8) hx hb dX12_feed_90 (by decide) ?_
  refine lv_iload hx hb dX12_feed_92 (lv_at hl 1 rfl) ?_
  refine lv_iconst (v := 4) hx hb dX12_feed_94 (by decide) ?_
  refine lv_irem hx hb dX12_feed_95 (by decide) ?_
  refine q_topi 0 (by decide) ?_
  refine lv_imul hx hb dX12_feed_96 ?_
  refine q_topi 0 (by decide) ?_
  refine lv_isub hx hb dX12_feed_97 ?_
  refine q_topi 24 (by decide) ?_
  refine lv_ishr hx hb dX12_feed_98 ?_
  refine lv_topi (fun x113 ex113 => ?_)
  refine lv_sipush (v := 255) hx hb dX12_feed_99 (by decide) ?_
  refine lv_iand hx hb dX12_feed_102 ?_
  refine lv_topi (fun x114 ex114 => ?_)
  refine va_iast hx hb hK hP hD hS 1 0 rfl rfl (vp_in_nI (by omega) (by decide)) dX12_feed_103 (fun H locs hP hD hS => ?_)
  have hP : va_P (dC, dI) classes [(q0, .inr (12, [.ref q1, .int 0, .ref q2, .ref q3, .ref q4, .int (nI (n0 + 4)), .int x1, .int x2, .int x3, .int x4, .int x5, .int x6, .int x7, .int x8, .int x9, .int x10, .int x11, .int x12, .int x13, .int x14, .int x15, .ref q5, .ref q6, .ref q7, .ref q8, .ref q9, .ref q10, .ref q11, .ref q12, .int x16, .ref q13, .ref q14, .ref q15, .ref q16, .int x17, .ref q17, .ref q18, .ref q19, .ref q20, .ref q21, .ref q22, .ref q23, .ref q24, .ref q25, .ref q26, .ref q27, .ref q28, .int x18, .ref q29, .ref q30, .int x19, .ref q31, .ref q32, .ref q33, .ref q34, .ref q35, .int x20, .int x21, .int x22, .int x23, .int x24, .int x25, .int x26, .int x27, .int x28, .int x29, .int x30, .int x31, .int x32, .int x33, .ref q36, .ref q37, .ref q38, .ref q39, .ref q40, .int x34, .int x35, .ref q41, .ref q42, .int x36, .ref q43])), (q2, .inl (k0, 3000, .inl (upd f112 (Int32.toNatClampNeg (nI (n0 + 4))) x114)))] H := hP
  have hD : va_D A [(q0, .inr (12, [.ref q1, .int 0, .ref q2, .ref q3, .ref q4, .int (nI (n0 + 4)), .int x1, .int x2, .int x3, .int x4, .int x5, .int x6, .int x7, .int x8, .int x9, .int x10, .int x11, .int x12, .int x13, .int x14, .int x15, .ref q5, .ref q6, .ref q7, .ref q8, .ref q9, .ref q10, .ref q11, .ref q12, .int x16, .ref q13, .ref q14, .ref q15, .ref q16, .int x17, .ref q17, .ref q18, .ref q19, .ref q20, .ref q21, .ref q22, .ref q23, .ref q24, .ref q25, .ref q26, .ref q27, .ref q28, .int x18, .ref q29, .ref q30, .int x19, .ref q31, .ref q32, .ref q33, .ref q34, .ref q35, .int x20, .int x21, .int x22, .int x23, .int x24, .int x25, .int x26, .int x27, .int x28, .int x29, .int x30, .int x31, .int x32, .int x33, .ref q36, .ref q37, .ref q38, .ref q39, .ref q40, .int x34, .int x35, .ref q41, .ref q42, .int x36, .ref q43])), (q2, .inl (k0, 3000, .inl (upd f112 (Int32.toNatClampNeg (nI (n0 + 4))) x114)))] := hD
  obtain ⟨f115, ef115⟩ : ∃ z : Nat → Int32, z = (upd f112 (Int32.toNatClampNeg (nI (n0 + 4))) x114) := ⟨_, rfl⟩
  rw [← ef115] at hP hD
  have hP : va_P (dC, dI) classes [(q0, .inr (12, [.ref q1, .int 0, .ref q2, .ref q3, .ref q4, .int (nI (n0 + 4)), .int x1, .int x2, .int x3, .int x4, .int x5, .int x6, .int x7, .int x8, .int x9, .int x10, .int x11, .int x12, .int x13, .int x14, .int x15, .ref q5, .ref q6, .ref q7, .ref q8, .ref q9, .ref q10, .ref q11, .ref q12, .int x16, .ref q13, .ref q14, .ref q15, .ref q16, .int x17, .ref q17, .ref q18, .ref q19, .ref q20, .ref q21, .ref q22, .ref q23, .ref q24, .ref q25, .ref q26, .ref q27, .ref q28, .int x18, .ref q29, .ref q30, .int x19, .ref q31, .ref q32, .ref q33, .ref q34, .ref q35, .int x20, .int x21, .int x22, .int x23, .int x24, .int x25, .int x26, .int x27, .int x28, .int x29, .int x30, .int x31, .int x32, .int x33, .ref q36, .ref q37, .ref q38, .ref q39, .ref q40, .int x34, .int x35, .ref q41, .ref q42, .int x36, .ref q43])), (q2, .inl (k0, 3000, .inl f115))] H := hP
  have hD : va_D A [(q0, .inr (12, [.ref q1, .int 0, .ref q2, .ref q3, .ref q4, .int (nI (n0 + 4)), .int x1, .int x2, .int x3, .int x4, .int x5, .int x6, .int x7, .int x8, .int x9, .int x10, .int x11, .int x12, .int x13, .int x14, .int x15, .ref q5, .ref q6, .ref q7, .ref q8, .ref q9, .ref q10, .ref q11, .ref q12, .int x16, .ref q13, .ref q14, .ref q15, .ref q16, .int x17, .ref q17, .ref q18, .ref q19, .ref q20, .ref q21, .ref q22, .ref q23, .ref q24, .ref q25, .ref q26, .ref q27, .ref q28, .int x18, .ref q29, .ref q30, .int x19, .ref q31, .ref q32, .ref q33, .ref q34, .ref q35, .int x20, .int x21, .int x22, .int x23, .int x24, .int x25, .int x26, .int x27, .int x28, .int x29, .int x30, .int x31, .int x32, .int x33, .ref q36, .ref q37, .ref q38, .ref q39, .ref q40, .int x34, .int x35, .ref q41, .ref q42, .int x36, .ref q43])), (q2, .inl (k0, 3000, .inl f115))] := hD
  refine lv_aload_n hx hb dX12_feed_104 rfl (lv_at hl 2 rfl) ?_
  refine lv_dup hx hb dX12_feed_105 rfl ?_
  refine va_get (D := (dC, dI)) (ci := 12) (v := .int (nI (n0 + 4))) (C := RX12) (T := TX12) (N := 81) hx hb hts (fun w h => mc (in_X12 w h)) hown hK hP 0 rfl rfl 5 (by decide) (hts _ (mc m_257)) (fun _ h9 => h9) rfl dX12_feed_106 ?_
  refine lv_iconst (v := 1) hx hb dX12_feed_109 (by decide) ?_
  refine lv_iadd hx hb dX12_feed_110 ?_
  refine q_topi (nI (n0 + 5)) (nI_add _ 1) ?_
  refine va_put (D := (dC, dI)) (ci := 12) (v := .int (nI (n0 + 5))) (ty := .int) (C := RX12) (T := TX12) (N := 81) hx hb hts (fun w h => mc (in_X12 w h)) tyX12 tyX12_ok nmX12 hown hK hP hD hS 0 rfl rfl 5 (by decide) (hts _ (mc m_257)) (fun _ h9 => h9) rfl (by decide +kernel) (by first | rfl | decide) (by first | rfl | decide) (Nat.le_of_ble_eq_true rfl) dX12_feed_111 (fun H locs hP hD hS => ?_)
  have hP : va_P (dC, dI) classes [(q0, .inr (12, [.ref q1, .int 0, .ref q2, .ref q3, .ref q4, .int (nI (n0 + 5)), .int x1, .int x2, .int x3, .int x4, .int x5, .int x6, .int x7, .int x8, .int x9, .int x10, .int x11, .int x12, .int x13, .int x14, .int x15, .ref q5, .ref q6, .ref q7, .ref q8, .ref q9, .ref q10, .ref q11, .ref q12, .int x16, .ref q13, .ref q14, .ref q15, .ref q16, .int x17, .ref q17, .ref q18, .ref q19, .ref q20, .ref q21, .ref q22, .ref q23, .ref q24, .ref q25, .ref q26, .ref q27, .ref q28, .int x18, .ref q29, .ref q30, .int x19, .ref q31, .ref q32, .ref q33, .ref q34, .ref q35, .int x20, .int x21, .int x22, .int x23, .int x24, .int x25, .int x26, .int x27, .int x28, .int x29, .int x30, .int x31, .int x32, .int x33, .ref q36, .ref q37, .ref q38, .ref q39, .ref q40, .int x34, .int x35, .ref q41, .ref q42, .int x36, .ref q43])), (q2, .inl (k0, 3000, .inl f115))] H := hP
  have hD : va_D A [(q0, .inr (12, [.ref q1, .int 0, .ref q2, .ref q3, .ref q4, .int (nI (n0 + 5)), .int x1, .int x2, .int x3, .int x4, .int x5, .int x6, .int x7, .int x8, .int x9, .int x10, .int x11, .int x12, .int x13, .int x14, .int x15, .ref q5, .ref q6, .ref q7, .ref q8, .ref q9, .ref q10, .ref q11, .ref q12, .int x16, .ref q13, .ref q14, .ref q15, .ref q16, .int x17, .ref q17, .ref q18, .ref q19, .ref q20, .ref q21, .ref q22, .ref q23, .ref q24, .ref q25, .ref q26, .ref q27, .ref q28, .int x18, .ref q29, .ref q30, .int x19, .ref q31, .ref q32, .ref q33, .ref q34, .ref q35, .int x20, .int x21, .int x22, .int x23, .int x24, .int x25, .int x26, .int x27, .int x28, .int x29, .int x30, .int x31, .int x32, .int x33, .ref q36, .ref q37, .ref q38, .ref q39, .ref q40, .int x34, .int x35, .ref q41, .ref q42, .int x36, .ref q43])), (q2, .inl (k0, 3000, .inl f115))] := hD
  refine lv_iinc (v := 5) (lv' := [(6, .int 5), (7, .int p1), (0, .ref q0), (1, .int p0), (2, .int p1), (3, .int p2), (4, .int p3), (5, .int p4)]) hx hb dX12_feed_114 hl (k := 1) rfl (by decide) (by decide) rfl (fun ls hl => ?_)
  refine lv_goto (tgt := 23) hx hb dX12_feed_117 (by decide) ?_
  refine lv_iload hx hb dX12_feed_23 (lv_at hl 0 rfl) ?_
  refine lv_bipush (v := 20) hx hb dX12_feed_25 (by decide) ?_
  refine lv_icmp_ge (tgt := 120) hx hb dX12_feed_27 (by decide) (fun c9 => absurd c9 (by decide)) (fun _ => ?_)
  refine lv_iload hx hb dX12_feed_30 (lv_at hl 0 rfl) ?_
  refine lv_iconst (v := 4) hx hb dX12_feed_32 (by decide) ?_
  refine lv_icmp_ge (tgt := 40) hx hb dX12_feed_33 (by decide) (fun _ => ?_) (fun c9 => absurd (by decide) c9)
  refine lv_iload hx hb dX12_feed_40 (lv_at hl 0 rfl) ?_
  refine lv_bipush (v := 8) hx hb dX12_feed_42 (by decide) ?_
  refine lv_icmp_ge (tgt := 51) hx hb dX12_feed_44 (by decide) (fun c9 => absurd c9 (by decide)) (fun _ => ?_)
  refine lv_iload_n hx hb dX12_feed_47 rfl (lv_at hl 4 rfl) ?_
  refine lv_goto (tgt := 76) hx hb dX12_feed_48 (by decide) ?_
  refine lv_istore (lv' := [(7, .int p1), (6, .int 5), (0, .ref q0), (1, .int p0), (2, .int p1), (3, .int p2), (4, .int p3), (5, .int p4)]) hx hb dX12_feed_76 hl (by decide) rfl (fun ls hl => ?_)
  refine lv_aload_n hx hb dX12_feed_78 rfl (lv_at hl 2 rfl) ?_
  refine va_get (D := (dC, dI)) (ci := 12) (v := .ref q2) (C := RX12) (T := TX12) (N := 81) hx hb hts (fun w h => mc (in_X12 w h)) hown hK hP 0 rfl rfl 2 (by decide) (hts _ (mc m_203)) (fun _ h9 => h9) rfl dX12_feed_79 ?_
  refine lv_aload_n hx hb dX12_feed_82 rfl (lv_at hl 2 rfl) ?_
  refine va_get (D := (dC, dI)) (ci := 12) (v := .int (nI (n0 + 5))) (C := RX12) (T := TX12) (N := 81) hx hb hts (fun w h => mc (in_X12 w h)) hown hK hP 0 rfl rfl 5 (by decide) (hts _ (mc m_257)) (fun _ h9 => h9) rfl dX12_feed_83 ?_
  refine lv_iload hx hb dX12_feed_86 (lv_at hl 0 rfl) ?_
  refine lv_bipush (v := 24) hx hb dX12_feed_88 (by decide) ?_
  refine lv_bipush (v := 8) hx hb dX12_feed_90 (by decide) ?_
  refine lv_iload hx hb dX12_feed_92 (lv_at hl 1 rfl) ?_
  refine lv_iconst (v := 4) hx hb dX12_feed_94 (by decide) ?_
  refine lv_irem hx hb dX12_feed_95 (by decide) ?_
  refine q_topi 1 (by decide) ?_
  refine lv_imul hx hb dX12_feed_96 ?_
  refine q_topi 8 (by decide) ?_
  refine lv_isub hx hb dX12_feed_97 ?_
  refine q_topi 16 (by decide) ?_
  refine lv_ishr hx hb dX12_feed_98 ?_
  refine lv_topi (fun x116 ex116 => ?_)
  refine lv_sipush (v := 255) hx hb dX12_feed_99 (by decide) ?_
  refine lv_iand hx hb dX12_feed_102 ?_
  refine lv_topi (fun x117 ex117 => ?_)
  refine va_iast hx hb hK hP hD hS 1 0 rfl rfl (vp_in_nI (by omega) (by decide)) dX12_feed_103 (fun H locs hP hD hS => ?_)
  have hP : va_P (dC, dI) classes [(q0, .inr (12, [.ref q1, .int 0, .ref q2, .ref q3, .ref q4, .int (nI (n0 + 5)), .int x1, .int x2, .int x3, .int x4, .int x5, .int x6, .int x7, .int x8, .int x9, .int x10, .int x11, .int x12, .int x13, .int x14, .int x15, .ref q5, .ref q6, .ref q7, .ref q8, .ref q9, .ref q10, .ref q11, .ref q12, .int x16, .ref q13, .ref q14, .ref q15, .ref q16, .int x17, .ref q17, .ref q18, .ref q19, .ref q20, .ref q21, .ref q22, .ref q23, .ref q24, .ref q25, .ref q26, .ref q27, .ref q28, .int x18, .ref q29, .ref q30, .int x19, .ref q31, .ref q32, .ref q33, .ref q34, .ref q35, .int x20, .int x21, .int x22, .int x23, .int x24, .int x25, .int x26, .int x27, .int x28, .int x29, .int x30, .int x31, .int x32, .int x33, .ref q36, .ref q37, .ref q38, .ref q39, .ref q40, .int x34, .int x35, .ref q41, .ref q42, .int x36, .ref q43])), (q2, .inl (k0, 3000, .inl (upd f115 (Int32.toNatClampNeg (nI (n0 + 5))) x117)))] H := hP
  have hD : va_D A [(q0, .inr (12, [.ref q1, .int 0, .ref q2, .ref q3, .ref q4, .int (nI (n0 + 5)), .int x1, .int x2, .int x3, .int x4, .int x5, .int x6, .int x7, .int x8, .int x9, .int x10, .int x11, .int x12, .int x13, .int x14, .int x15, .ref q5, .ref q6, .ref q7, .ref q8, .ref q9, .ref q10, .ref q11, .ref q12, .int x16, .ref q13, .ref q14, .ref q15, .ref q16, .int x17, .ref q17, .ref q18, .ref q19, .ref q20, .ref q21, .ref q22, .ref q23, .ref q24, .ref q25, .ref q26, .ref q27, .ref q28, .int x18, .ref q29, .ref q30, .int x19, .ref q31, .ref q32, .ref q33, .ref q34, .ref q35, .int x20, .int x21, .int x22, .int x23, .int x24, .int x25, .int x26, .int x27, .int x28, .int x29, .int x30, .int x31, .int x32, .int x33, .ref q36, .ref q37, .ref q38, .ref q39, .ref q40, .int x34, .int x35, .ref q41, .ref q42, .int x36, .ref q43])), (q2, .inl (k0, 3000, .inl (upd f115 (Int32.toNatClampNeg (nI (n0 + 5))) x117)))] := hD
  obtain ⟨f118, ef118⟩ : ∃ z : Nat → Int32, z = (upd f115 (Int32.toNatClampNeg (nI (n0 + 5))) x117) := ⟨_, rfl⟩
  rw [← ef118] at hP hD
  have hP : va_P (dC, dI) classes [(q0, .inr (12, [.ref q1, .int 0, .ref q2, .ref q3, .ref q4, .int (nI (n0 + 5)), .int x1, .int x2, .int x3, .int x4, .int x5, .int x6, .int x7, .int x8, .int x9, .int x10, .int x11, .int x12, .int x13, .int x14, .int x15, .ref q5, .ref q6, .ref q7, .ref q8, .ref q9, .ref q10, .ref q11, .ref q12, .int x16, .ref q13, .ref q14, .ref q15, .ref q16, .int x17, .ref q17, .ref q18, .ref q19, .ref q20, .ref q21, .ref q22, .ref q23, .ref q24, .ref q25, .ref q26, .ref q27, .ref q28, .int x18, .ref q29, .ref q30, .int x19, .ref q31, .ref q32, .ref q33, .ref q34, .ref q35, .int x20, .int x21, .int x22, .int x23, .int x24, .int x25, .int x26, .int x27, .int x28, .int x29, .int x30, .int x31, .int x32, .int x33, .ref q36, .ref q37, .ref q38, .ref q39, .ref q40, .int x34, .int x35, .ref q41, .ref q42, .int x36, .ref q43])), (q2, .inl (k0, 3000, .inl f118))] H := hP
  have hD : va_D A [(q0, .inr (12, [.ref q1, .int 0, .ref q2, .ref q3, .ref q4, .int (nI (n0 + 5)), .int x1, .int x2, .int x3, .int x4, .int x5, .int x6, .int x7, .int x8, .int x9, .int x10, .int x11, .int x12, .int x13, .int x14, .int x15, .ref q5, .ref q6, .ref q7, .ref q8, .ref q9, .ref q10, .ref q11, .ref q12, .int x16, .ref q13, .ref q14, .ref q15, .ref q16, .int x17, .ref q17, .ref q18, .ref q19, .ref q20, .ref q21, .ref q22, .ref q23, .ref q24, .ref q25, .ref q26, .ref q27, .ref q28, .int x18, .ref q29, .ref q30, .int x19, .ref q31, .ref q32, .ref q33, .ref q34, .ref q35, .int x20, .int x21, .int x22, .int x23, .int x24, .int x25, .int x26, .int x27, .int x28, .int x29, .int x30, .int x31, .int x32, .int x33, .ref q36, .ref q37, .ref q38, .ref q39, .ref q40, .int x34, .int x35, .ref q41, .ref q42, .int x36, .ref q43])), (q2, .inl (k0, 3000, .inl f118))] := hD
  refine lv_aload_n hx hb dX12_feed_104 rfl (lv_at hl 2 rfl) ?_
  refine lv_dup hx hb dX12_feed_105 rfl ?_
  refine va_get (D := (dC, dI)) (ci := 12) (v := .int (nI (n0 + 5))) (C := RX12) (T := TX12) (N := 81) hx hb hts (fun w h => mc (in_X12 w h)) hown hK hP 0 rfl rfl 5 (by decide) (hts _ (mc m_257)) (fun _ h9 => h9) rfl dX12_feed_106 ?_
  refine lv_iconst (v := 1) hx hb dX12_feed_109 (by decide) ?_
  refine lv_iadd hx hb dX12_feed_110 ?_
  refine q_topi (nI (n0 + 6)) (nI_add _ 1) ?_
  refine va_put (D := (dC, dI)) (ci := 12) (v := .int (nI (n0 + 6))) (ty := .int) (C := RX12) (T := TX12) (N := 81) hx hb hts (fun w h => mc (in_X12 w h)) tyX12 tyX12_ok nmX12 hown hK hP hD hS 0 rfl rfl 5 (by decide) (hts _ (mc m_257)) (fun _ h9 => h9) rfl (by decide +kernel) (by first | rfl | decide) (by first | rfl | decide) (Nat.le_of_ble_eq_true rfl) dX12_feed_111 (fun H locs hP hD hS => ?_)
  have hP : va_P (dC, dI) classes [(q0, .inr (12, [.ref q1, .int 0, .ref q2, .ref q3, .ref q4, .int (nI (n0 + 6)), .int x1, .int x2, .int x3, .int x4, .int x5, .int x6, .int x7, .int x8, .int x9, .int x10, .int x11, .int x12, .int x13, .int x14, .int x15, .ref q5, .ref q6, .ref q7, .ref q8, .ref q9, .ref q10, .ref q11, .ref q12, .int x16, .ref q13, .ref q14, .ref q15, .ref q16, .int x17, .ref q17, .ref q18, .ref q19, .ref q20, .ref q21, .ref q22, .ref q23, .ref q24, .ref q25, .ref q26, .ref q27, .ref q28, .int x18, .ref q29, .ref q30, .int x19, .ref q31, .ref q32, .ref q33, .ref q34, .ref q35, .int x20, .int x21, .int x22, .int x23, .int x24, .int x25, .int x26, .int x27, .int x28, .int x29, .int x30, .int x31, .int x32, .int x33, .ref q36, .ref q37, .ref q38, .ref q39, .ref q40, .int x34, .int x35, .ref q41, .ref q42, .int x36, .ref q43])), (q2, .inl (k0, 3000, .inl f118))] H := hP
  have hD : va_D A [(q0, .inr (12, [.ref q1, .int 0, .ref q2, .ref q3, .ref q4, .int (nI (n0 + 6)), .int x1, .int x2, .int x3, .int x4, .int x5, .int x6, .int x7, .int x8, .int x9, .int x10, .int x11, .int x12, .int x13, .int x14, .int x15, .ref q5, .ref q6, .ref q7, .ref q8, .ref q9, .ref q10, .ref q11, .ref q12, .int x16, .ref q13, .ref q14, .ref q15, .ref q16, .int x17, .ref q17, .ref q18, .ref q19, .ref q20, .ref q21, .ref q22, .ref q23, .ref q24, .ref q25, .ref q26, .ref q27, .ref q28, .int x18, .ref q29, .ref q30, .int x19, .ref q31, .ref q32, .ref q33, .ref q34, .ref q35, .int x20, .int x21, .int x22, .int x23, .int x24, .int x25, .int x26, .int x27, .int x28, .int x29, .int x30, .int x31, .int x32, .int x33, .ref q36, .ref q37, .ref q38, .ref q39, .ref q40, .int x34, .int x35, .ref q41, .ref q42, .int x36, .ref q43])), (q2, .inl (k0, 3000, .inl f118))] := hD
  refine lv_iinc (v := 6) (lv' := [(6, .int 6), (7, .int p1), (0, .ref q0), (1, .int p0), (2, .int p1), (3, .int p2), (4, .int p3), (5, .int p4)]) hx hb dX12_feed_114 hl (k := 1) rfl (by decide) (by decide) rfl (fun ls hl => ?_)
  refine lv_goto (tgt := 23) hx hb dX12_feed_117 (by decide) ?_
  refine lv_iload hx hb dX12_feed_23 (lv_at hl 0 rfl) ?_
  refine lv_bipush (v := 20) hx hb dX12_feed_25 (by decide) ?_
  refine lv_icmp_ge (tgt := 120) hx hb dX12_feed_27 (by decide) (fun c9 => absurd c9 (by decide)) (fun _ => ?_)
  refine lv_iload hx hb dX12_feed_30 (lv_at hl 0 rfl) ?_
  refine lv_iconst (v := 4) hx hb dX12_feed_32 (by decide) ?_
  refine lv_icmp_ge (tgt := 40) hx hb dX12_feed_33 (by decide) (fun _ => ?_) (fun c9 => absurd (by decide) c9)
  refine lv_iload hx hb dX12_feed_40 (lv_at hl 0 rfl) ?_
  refine lv_bipush (v := 8) hx hb dX12_feed_42 (by decide) ?_
  refine lv_icmp_ge (tgt := 51) hx hb dX12_feed_44 (by decide) (fun c9 => absurd c9 (by decide)) (fun _ => ?_)
  refine lv_iload_n hx hb dX12_feed_47 rfl (lv_at hl 4 rfl) ?_
  refine lv_goto (tgt := 76) hx hb dX12_feed_48 (by decide) ?_
  refine lv_istore (lv' := [(7, .int p1), (6, .int 6), (0, .ref q0), (1, .int p0), (2, .int p1), (3, .int p2), (4, .int p3), (5, .int p4)]) hx hb dX12_feed_76 hl (by decide) rfl (fun ls hl => ?_)
  refine lv_aload_n hx hb dX12_feed_78 rfl (lv_at hl 2 rfl) ?_
  refine va_get (D := (dC, dI)) (ci := 12) (v := .ref q2) (C := RX12) (T := TX12) (N := 81) hx hb hts (fun w h => mc (in_X12 w h)) hown hK hP 0 rfl rfl 2 (by decide) (hts _ (mc m_203)) (fun _ h9 => h9) rfl dX12_feed_79 ?_
  refine lv_aload_n hx hb dX12_feed_82 rfl (lv_at hl 2 rfl) ?_
  refine va_get (D := (dC, dI)) (ci := 12) (v := .int (nI (n0 + 6))) (C := RX12) (T := TX12) (N := 81) hx hb hts (fun w h => mc (in_X12 w h)) hown hK hP 0 rfl rfl 5 (by decide) (hts _ (mc m_257)) (fun _ h9 => h9) rfl dX12_feed_83 ?_
  refine lv_iload hx hb dX12_feed_86 (lv_at hl 0 rfl) ?_
  refine lv_bipush (v := 24) hx hb dX12_feed_88 (by decide) ?_
  refine lv_bipush (v := 8) hx hb dX12_feed_90 (by decide) ?_
  refine lv_iload hx hb dX12_feed_92 (lv_at hl 1 rfl) ?_
  refine lv_iconst (v := 4) hx hb dX12_feed_94 (by decide) ?_
  refine lv_irem hx hb dX12_feed_95 (by decide) ?_
  refine q_topi 2 (by decide) ?_
  refine lv_imul hx hb dX12_feed_96 ?_
  refine q_topi 16 (by decide) ?_
  refine lv_isub hx hb dX12_feed_97 ?_
  refine q_topi 8 (by decide) ?_
  refine lv_ishr hx hb dX12_feed_98 ?_
  refine lv_topi (fun x119 ex119 => ?_)
  refine lv_sipush (v := 255) hx hb dX12_feed_99 (by decide) ?_
  refine lv_iand hx hb dX12_feed_102 ?_
  refine lv_topi (fun x120 ex120 => ?_)
  refine va_iast hx hb hK hP hD hS 1 0 rfl rfl (vp_in_nI (by omega) (by decide)) dX12_feed_103 (fun H locs hP hD hS => ?_)
  have hP : va_P (dC, dI) classes [(q0, .inr (12, [.ref q1, .int 0, .ref q2, .ref q3, .ref q4, .int (nI (n0 + 6)), .int x1, .int x2, .int x3, .int x4, .int x5, .int x6, .int x7, .int x8, .int x9, .int x10, .int x11, .int x12, .int x13, .int x14, .int x15, .ref q5, .ref q6, .ref q7, .ref q8, .ref q9, .ref q10, .ref q11, .ref q12, .int x16, .ref q13, .ref q14, .ref q15, .ref q16, .int x17, .ref q17, .ref q18, .ref q19, .ref q20, .ref q21, .ref q22, .ref q23, .ref q24, .ref q25, .ref q26, .ref q27, .ref q28, .int x18, .ref q29, .ref q30, .int x19, .ref q31, .ref q32, .ref q33, .ref q34, .ref q35, .int x20, .int x21, .int x22, .int x23, .int x24, .int x25, .int x26, .int x27, .int x28, .int x29, .int x30, .int x31, .int x32, .int x33, .ref q36, .ref q37, .ref q38, .ref q39, .ref q40, .int x34, .int x35, .ref q41, .ref q42, .int x36, .ref q43])), (q2, .inl (k0, 3000, .inl (upd f118 (Int32.toNatClampNeg (nI (n0 + 6))) x120)))] H := hP
  have hD : va_D A [(q0, .inr (12, [.ref q1, .int 0, .ref q2, .ref q3, .ref q4, .int (nI (n0 + 6)), .int x1, .int x2, .int x3, .int x4, .int x5, .int x6, .int x7, .int x8, .int x9, .int x10, .int x11, .int x12, .int x13, .int x14, .int x15, .ref q5, .ref q6, .ref q7, .ref q8, .ref q9, .ref q10, .ref q11, .ref q12, .int x16, .ref q13, .ref q14, .ref q15, .ref q16, .int x17, .ref q17, .ref q18, .ref q19, .ref q20, .ref q21, .ref q22, .ref q23, .ref q24, .ref q25, .ref q26, .ref q27, .ref q28, .int x18, .ref q29, .ref q30, .int x19, .ref q31, .ref q32, .ref q33, .ref q34, .ref q35, .int x20, .int x21, .int x22, .int x23, .int x24, .int x25, .int x26, .int x27, .int x28, .int x29, .int x30, .int x31, .int x32, .int x33, .ref q36, .ref q37, .ref q38, .ref q39, .ref q40, .int x34, .int x35, .ref q41, .ref q42, .int x36, .ref q43])), (q2, .inl (k0, 3000, .inl (upd f118 (Int32.toNatClampNeg (nI (n0 + 6))) x120)))] := hD
  obtain ⟨f121, ef121⟩ : ∃ z : Nat → Int32, z = (upd f118 (Int32.toNatClampNeg (nI (n0 + 6))) x120) := ⟨_, rfl⟩
  rw [← ef121] at hP hD
  have hP : va_P (dC, dI) classes [(q0, .inr (12, [.ref q1, .int 0, .ref q2, .ref q3, .ref q4, .int (nI (n0 + 6)), .int x1, .int x2, .int x3, .int x4, .int x5, .int x6, .int x7, .int x8, .int x9, .int x10, .int x11, .int x12, .int x13, .int x14, .int x15, .ref q5, .ref q6, .ref q7, .ref q8, .ref q9, .ref q10, .ref q11, .ref q12, .int x16, .ref q13, .ref q14, .ref q15, .ref q16, .int x17, .ref q17, .ref q18, .ref q19, .ref q20, .ref q21, .ref q22, .ref q23, .ref q24, .ref q25, .ref q26, .ref q27, .ref q28, .int x18, .ref q29, .ref q30, .int x19, .ref q31, .ref q32, .ref q33, .ref q34, .ref q35, .int x20, .int x21, .int x22, .int x23, .int x24, .int x25, .int x26, .int x27, .int x28, .int x29, .int x30, .int x31, .int x32, .int x33, .ref q36, .ref q37, .ref q38, .ref q39, .ref q40, .int x34, .int x35, .ref q41, .ref q42, .int x36, .ref q43])), (q2, .inl (k0, 3000, .inl f121))] H := hP
  have hD : va_D A [(q0, .inr (12, [.ref q1, .int 0, .ref q2, .ref q3, .ref q4, .int (nI (n0 + 6)), .int x1, .int x2, .int x3, .int x4, .int x5, .int x6, .int x7, .int x8, .int x9, .int x10, .int x11, .int x12, .int x13, .int x14, .int x15, .ref q5, .ref q6, .ref q7, .ref q8, .ref q9, .ref q10, .ref q11, .ref q12, .int x16, .ref q13, .ref q14, .ref q15, .ref q16, .int x17, .ref q17, .ref q18, .ref q19, .ref q20, .ref q21, .ref q22, .ref q23, .ref q24, .ref q25, .ref q26, .ref q27, .ref q28, .int x18, .ref q29, .ref q30, .int x19, .ref q31, .ref q32, .ref q33, .ref q34, .ref q35, .int x20, .int x21, .int x22, .int x23, .int x24, .int x25, .int x26, .int x27, .int x28, .int x29, .int x30, .int x31, .int x32, .int x33, .ref q36, .ref q37, .ref q38, .ref q39, .ref q40, .int x34, .int x35, .ref q41, .ref q42, .int x36, .ref q43])), (q2, .inl (k0, 3000, .inl f121))] := hD
  refine lv_aload_n hx hb dX12_feed_104 rfl (lv_at hl 2 rfl) ?_
  refine lv_dup hx hb dX12_feed_105 rfl ?_
  refine va_get (D := (dC, dI)) (ci := 12) (v := .int (nI (n0 + 6))) (C := RX12) (T := TX12) (N := 81) hx hb hts (fun w h => mc (in_X12 w h)) hown hK hP 0 rfl rfl 5 (by decide) (hts _ (mc m_257)) (fun _ h9 => h9) rfl dX12_feed_106 ?_
  refine lv_iconst (v := 1) hx hb dX12_feed_109 (by decide) ?_
  refine lv_iadd hx hb dX12_feed_110 ?_
  refine q_topi (nI (n0 + 7)) (nI_add _ 1) ?_
  refine va_put (D := (dC, dI)) (ci := 12) (v := .int (nI (n0 + 7))) (ty := .int) (C := RX12) (T := TX12) (N := 81) hx hb hts (fun w h => mc (in_X12 w h)) tyX12 tyX12_ok nmX12 hown hK hP hD hS 0 rfl rfl 5 (by decide) (hts _ (mc m_257)) (fun _ h9 => h9) rfl (by decide +kernel) (by first | rfl | decide) (by first | rfl | decide) (Nat.le_of_ble_eq_true rfl) dX12_feed_111 (fun H locs hP hD hS => ?_)
  have hP : va_P (dC, dI) classes [(q0, .inr (12, [.ref q1, .int 0, .ref q2, .ref q3, .ref q4, .int (nI (n0 + 7)), .int x1, .int x2, .int x3, .int x4, .int x5, .int x6, .int x7, .int x8, .int x9, .int x10, .int x11, .int x12, .int x13, .int x14, .int x15, .ref q5, .ref q6, .ref q7, .ref q8, .ref q9, .ref q10, .ref q11, .ref q12, .int x16, .ref q13, .ref q14, .ref q15, .ref q16, .int x17, .ref q17, .ref q18, .ref q19, .ref q20, .ref q21, .ref q22, .ref q23, .ref q24, .ref q25, .ref q26, .ref q27, .ref q28, .int x18, .ref q29, .ref q30, .int x19, .ref q31, .ref q32, .ref q33, .ref q34, .ref q35, .int x20, .int x21, .int x22, .int x23, .int x24, .int x25, .int x26, .int x27, .int x28, .int x29, .int x30, .int x31, .int x32, .int x33, .ref q36, .ref q37, .ref q38, .ref q39, .ref q40, .int x34, .int x35, .ref q41, .ref q42, .int x36, .ref q43])), (q2, .inl (k0, 3000, .inl f121))] H := hP
  have hD : va_D A [(q0, .inr (12, [.ref q1, .int 0, .ref q2, .ref q3, .ref q4, .int (nI (n0 + 7)), .int x1, .int x2, .int x3, .int x4, .int x5, .int x6, .int x7, .int x8, .int x9, .int x10, .int x11, .int x12, .int x13, .int x14, .int x15, .ref q5, .ref q6, .ref q7, .ref q8, .ref q9, .ref q10, .ref q11, .ref q12, .int x16, .ref q13, .ref q14, .ref q15, .ref q16, .int x17, .ref q17, .ref q18, .ref q19, .ref q20, .ref q21, .ref q22, .ref q23, .ref q24, .ref q25, .ref q26, .ref q27, .ref q28, .int x18, .ref q29, .ref q30, .int x19, .ref q31, .ref q32, .ref q33, .ref q34, .ref q35, .int x20, .int x21, .int x22, .int x23, .int x24, .int x25, .int x26, .int x27, .int x28, .int x29, .int x30, .int x31, .int x32, .int x33, .ref q36, .ref q37, .ref q38, .ref q39, .ref q40, .int x34, .int x35, .ref q41, .ref q42, .int x36, .ref q43])), (q2, .inl (k0, 3000, .inl f121))] := hD
  refine lv_iinc (v := 7) (lv' := [(6, .int 7), (7, .int p1), (0, .ref q0), (1, .int p0), (2, .int p1), (3, .int p2), (4, .int p3), (5, .int p4)]) hx hb dX12_feed_114 hl (k := 1) rfl (by decide) (by decide) rfl (fun ls hl => ?_)
  refine lv_goto (tgt := 23) hx hb dX12_feed_117 (by decide) ?_
  refine lv_iload hx hb dX12_feed_23 (lv_at hl 0 rfl) ?_
  refine lv_bipush (v := 20) hx hb dX12_feed_25 (by decide) ?_
  refine lv_icmp_ge (tgt := 120) hx hb dX12_feed_27 (by decide) (fun c9 => absurd c9 (by decide)) (fun _ => ?_)
  refine lv_iload hx hb dX12_feed_30 (lv_at hl 0 rfl) ?_
  refine lv_iconst (v := 4) hx hb dX12_feed_32 (by decide) ?_
  refine lv_icmp_ge (tgt := 40) hx hb dX12_feed_33 (by decide) (fun _ => ?_) (fun c9 => absurd (by decide) c9)
  refine lv_iload hx hb dX12_feed_40 (lv_at hl 0 rfl) ?_
  refine lv_bipush (v := 8) hx hb dX12_feed_42 (by decide) ?_
  refine lv_icmp_ge (tgt := 51) hx hb dX12_feed_44 (by decide) (fun c9 => absurd c9 (by decide)) (fun _ => ?_)
  refine lv_iload_n hx hb dX12_feed_47 rfl (lv_at hl 4 rfl) ?_
  refine lv_goto (tgt := 76) hx hb dX12_feed_48 (by decide) ?_
  refine lv_istore (lv' := [(7, .int p1), (6, .int 7), (0, .ref q0), (1, .int p0), (2, .int p1), (3, .int p2), (4, .int p3), (5, .int p4)]) hx hb dX12_feed_76 hl (by decide) rfl (fun ls hl => ?_)
  refine lv_aload_n hx hb dX12_feed_78 rfl (lv_at hl 2 rfl) ?_
  refine va_get (D := (dC, dI)) (ci := 12) (v := .ref q2) (C := RX12) (T := TX12) (N := 81) hx hb hts (fun w h => mc (in_X12 w h)) hown hK hP 0 rfl rfl 2 (by decide) (hts _ (mc m_203)) (fun _ h9 => h9) rfl dX12_feed_79 ?_
  refine lv_aload_n hx hb dX12_feed_82 rfl (lv_at hl 2 rfl) ?_
  refine va_get (D := (dC, dI)) (ci := 12) (v := .int (nI (n0 + 7))) (C := RX12) (T := TX12) (N := 81) hx hb hts (fun w h => mc (in_X12 w h)) hown hK hP 0 rfl rfl 5 (by decide) (hts _ (mc m_257)) (fun _ h9 => h9) rfl dX12_feed_83 ?_
  refine lv_iload hx hb dX12_feed_86 (lv_at hl 0 rfl) ?_
  refine lv_bipush (v := 24) hx hb dX12_feed_88 (by decide) ?_
  refine lv_bipush (v := 8) hx hb dX12_feed_90 (by decide) ?_
  refine lv_iload hx hb dX12_feed_92 (lv_at hl 1 rfl) ?_
  refine lv_iconst (v := 4) hx hb dX12_feed_94 (by decide) ?_
  refine lv_irem hx hb dX12_feed_95 (by decide) ?_
  refine q_topi 3 (by decide) ?_
  refine lv_imul hx hb dX12_feed_96 ?_
  refine q_topi 24 (by decide) ?_
  refine lv_isub hx hb dX12_feed_97 ?_
  refine q_topi 0 (by decide) ?_
  refine lv_ishr hx hb dX12_feed_98 ?_
  refine lv_topi (fun x122 ex122 => ?_)
  refine lv_sipush (v := 255) hx hb dX12_feed_99 (by decide) ?_
  refine lv_iand hx hb dX12_feed_102 ?_
  refine lv_topi (fun x123 ex123 => ?_)
  refine va_iast hx hb hK hP hD hS 1 0 rfl rfl (vp_in_nI (by omega) (by decide)) dX12_feed_103 (fun H locs hP hD hS => ?_)
  have hP : va_P (dC, dI) classes [(q0, .inr (12, [.ref q1, .int 0, .ref q2, .ref q3, .ref q4, .int (nI (n0 + 7)), .int x1, .int x2, .int x3, .int x4, .int x5, .int x6, .int x7, .int x8, .int x9, .int x10, .int x11, .int x12, .int x13, .int x14, .int x15, .ref q5, .ref q6, .ref q7, .ref q8, .ref q9, .ref q10, .ref q11, .ref q12, .int x16, .ref q13, .ref q14, .ref q15, .ref q16, .int x17, .ref q17, .ref q18, .ref q19, .ref q20, .ref q21, .ref q22, .ref q23, .ref q24, .ref q25, .ref q26, .ref q27, .ref q28, .int x18, .ref q29, .ref q30, .int x19, .ref q31, .ref q32, .ref q33, .ref q34, .ref q35, .int x20, .int x21, .int x22, .int x23, .int x24, .int x25, .int x26, .int x27, .int x28, .int x29, .int x30, .int x31, .int x32, .int x33, .ref q36, .ref q37, .ref q38, .ref q39, .ref q40, .int x34, .int x35, .ref q41, .ref q42, .int x36, .ref q43])), (q2, .inl (k0, 3000, .inl (upd f121 (Int32.toNatClampNeg (nI (n0 + 7))) x123)))] H := hP
  have hD : va_D A [(q0, .inr (12, [.ref q1, .int 0, .ref q2, .ref q3, .ref q4, .int (nI (n0 + 7)), .int x1, .int x2, .int x3, .int x4, .int x5, .int x6, .int x7, .int x8, .int x9, .int x10, .int x11, .int x12, .int x13, .int x14, .int x15, .ref q5, .ref q6, .ref q7, .ref q8, .ref q9, .ref q10, .ref q11, .ref q12, .int x16, .ref q13, .ref q14, .ref q15, .ref q16, .int x17, .ref q17, .ref q18, .ref q19, .ref q20, .ref q21, .ref q22, .ref q23, .ref q24, .ref q25, .ref q26, .ref q27, .ref q28, .int x18, .ref q29, .ref q30, .int x19, .ref q31, .ref q32, .ref q33, .ref q34, .ref q35, .int x20, .int x21, .int x22, .int x23, .int x24, .int x25, .int x26, .int x27, .int x28, .int x29, .int x30, .int x31, .int x32, .int x33, .ref q36, .ref q37, .ref q38, .ref q39, .ref q40, .int x34, .int x35, .ref q41, .ref q42, .int x36, .ref q43])), (q2, .inl (k0, 3000, .inl (upd f121 (Int32.toNatClampNeg (nI (n0 + 7))) x123)))] := hD
  obtain ⟨f124, ef124⟩ : ∃ z : Nat → Int32, z = (upd f121 (Int32.toNatClampNeg (nI (n0 + 7))) x123) := ⟨_, rfl⟩
  rw [← ef124] at hP hD
  have hP : va_P (dC, dI) classes [(q0, .inr (12, [.ref q1, .int 0, .ref q2, .ref q3, .ref q4, .int (nI (n0 + 7)), .int x1, .int x2, .int x3, .int x4, .int x5, .int x6, .int x7, .int x8, .int x9, .int x10, .int x11, .int x12, .int x13, .int x14, .int x15, .ref q5, .ref q6, .ref q7, .ref q8, .ref q9, .ref q10, .ref q11, .ref q12, .int x16, .ref q13, .ref q14, .ref q15, .ref q16, .int x17, .ref q17, .ref q18, .ref q19, .ref q20, .ref q21, .ref q22, .ref q23, .ref q24, .ref q25, .ref q26, .ref q27, .ref q28, .int x18, .ref q29, .ref q30, .int x19, .ref q31, .ref q32, .ref q33, .ref q34, .ref q35, .int x20, .int x21, .int x22, .int x23, .int x24, .int x25, .int x26, .int x27, .int x28, .int x29, .int x30, .int x31, .int x32, .int x33, .ref q36, .ref q37, .ref q38, .ref q39, .ref q40, .int x34, .int x35, .ref q41, .ref q42, .int x36, .ref q43])), (q2, .inl (k0, 3000, .inl f124))] H := hP
  have hD : va_D A [(q0, .inr (12, [.ref q1, .int 0, .ref q2, .ref q3, .ref q4, .int (nI (n0 + 7)), .int x1, .int x2, .int x3, .int x4, .int x5, .int x6, .int x7, .int x8, .int x9, .int x10, .int x11, .int x12, .int x13, .int x14, .int x15, .ref q5, .ref q6, .ref q7, .ref q8, .ref q9, .ref q10, .ref q11, .ref q12, .int x16, .ref q13, .ref q14, .ref q15, .ref q16, .int x17, .ref q17, .ref q18, .ref q19, .ref q20, .ref q21, .ref q22, .ref q23, .ref q24, .ref q25, .ref q26, .ref q27, .ref q28, .int x18, .ref q29, .ref q30, .int x19, .ref q31, .ref q32, .ref q33, .ref q34, .ref q35, .int x20, .int x21, .int x22, .int x23, .int x24, .int x25, .int x26, .int x27, .int x28, .int x29, .int x30, .int x31, .int x32, .int x33, .ref q36, .ref q37, .ref q38, .ref q39, .ref q40, .int x34, .int x35, .ref q41, .ref q42, .int x36, .ref q43])), (q2, .inl (k0, 3000, .inl f124))] := hD
  refine lv_aload_n hx hb dX12_feed_104 rfl (lv_at hl 2 rfl) ?_
  refine lv_dup hx hb dX12_feed_105 rfl ?_
  refine va_get (D := (dC, dI)) (ci := 12) (v := .int (nI (n0 + 7))) (C := RX12) (T := TX12) (N := 81) hx hb hts (fun w h => mc (in_X12 w h)) hown hK hP 0 rfl rfl 5 (by decide) (hts _ (mc m_257)) (fun _ h9 => h9) rfl dX12_feed_106 ?_
  refine lv_iconst (v := 1) hx hb dX12_feed_109 (by decide) ?_
  refine lv_iadd hx hb dX12_feed_110 ?_
  refine q_topi (nI (n0 + 8)) (nI_add _ 1) ?_
  refine va_put (D := (dC, dI)) (ci := 12) (v := .int (nI (n0 + 8))) (ty := .int) (C := RX12) (T := TX12) (N := 81) hx hb hts (fun w h => mc (in_X12 w h)) tyX12 tyX12_ok nmX12 hown hK hP hD hS 0 rfl rfl 5 (by decide) (hts _ (mc m_257)) (fun _ h9 => h9) rfl (by decide +kernel) (by first | rfl | decide) (by first | rfl | decide) (Nat.le_of_ble_eq_true rfl) dX12_feed_111 (fun H locs hP hD hS => ?_)
  have hP : va_P (dC, dI) classes [(q0, .inr (12, [.ref q1, .int 0, .ref q2, .ref q3, .ref q4, .int (nI (n0 + 8)), .int x1, .int x2, .int x3, .int x4, .int x5, .int x6, .int x7, .int x8, .int x9, .int x10, .int x11, .int x12, .int x13, .int x14, .int x15, .ref q5, .ref q6, .ref q7, .ref q8, .ref q9, .ref q10, .ref q11, .ref q12, .int x16, .ref q13, .ref q14, .ref q15, .ref q16, .int x17, .ref q17, .ref q18, .ref q19, .ref q20, .ref q21, .ref q22, .ref q23, .ref q24, .ref q25, .ref q26, .ref q27, .ref q28, .int x18, .ref q29, .ref q30, .int x19, .ref q31, .ref q32, .ref q33, .ref q34, .ref q35, .int x20, .int x21, .int x22, .int x23, .int x24, .int x25, .int x26, .int x27, .int x28, .int x29, .int x30, .int x31, .int x32, .int x33, .ref q36, .ref q37, .ref q38, .ref q39, .ref q40, .int x34, .int x35, .ref q41, .ref q42, .int x36, .ref q43])), (q2, .inl (k0, 3000, .inl f124))] H := hP
  have hD : va_D A [(q0, .inr (12, [.ref q1, .int 0, .ref q2, .ref q3, .ref q4, .int (nI (n0 + 8)), .int x1, .int x2, .int x3, .int x4, .int x5, .int x6, .int x7, .int x8, .int x9, .int x10, .int x11, .int x12, .int x13, .int x14, .int x15, .ref q5, .ref q6, .ref q7, .ref q8, .ref q9, .ref q10, .ref q11, .ref q12, .int x16, .ref q13, .ref q14, .ref q15, .ref q16, .int x17, .ref q17, .ref q18, .ref q19, .ref q20, .ref q21, .ref q22, .ref q23, .ref q24, .ref q25, .ref q26, .ref q27, .ref q28, .int x18, .ref q29, .ref q30, .int x19, .ref q31, .ref q32, .ref q33, .ref q34, .ref q35, .int x20, .int x21, .int x22, .int x23, .int x24, .int x25, .int x26, .int x27, .int x28, .int x29, .int x30, .int x31, .int x32, .int x33, .ref q36, .ref q37, .ref q38, .ref q39, .ref q40, .int x34, .int x35, .ref q41, .ref q42, .int x36, .ref q43])), (q2, .inl (k0, 3000, .inl f124))] := hD
  refine lv_iinc (v := 8) (lv' := [(6, .int 8), (7, .int p1), (0, .ref q0), (1, .int p0), (2, .int p1), (3, .int p2), (4, .int p3), (5, .int p4)]) hx hb dX12_feed_114 hl (k := 1) rfl (by decide) (by decide) rfl (fun ls hl => ?_)
  refine lv_goto (tgt := 23) hx hb dX12_feed_117 (by decide) ?_
  refine lv_iload hx hb dX12_feed_23 (lv_at hl 0 rfl) ?_
  refine lv_bipush (v := 20) hx hb dX12_feed_25 (by decide) ?_
  refine lv_icmp_ge (tgt := 120) hx hb dX12_feed_27 (by decide) (fun c9 => absurd c9 (by decide)) (fun _ => ?_)
  refine lv_iload hx hb dX12_feed_30 (lv_at hl 0 rfl) ?_
  refine lv_iconst (v := 4) hx hb dX12_feed_32 (by decide) ?_
  refine lv_icmp_ge (tgt := 40) hx hb dX12_feed_33 (by decide) (fun _ => ?_) (fun c9 => absurd (by decide) c9)
  refine lv_iload hx hb dX12_feed_40 (lv_at hl 0 rfl) ?_
  refine lv_bipush (v := 8) hx hb dX12_feed_42 (by decide) ?_
  refine lv_icmp_ge (tgt := 51) hx hb dX12_feed_44 (by decide) (fun _ => ?_) (fun c9 => absurd (by decide) c9)
  refine lv_iload hx hb dX12_feed_51 (lv_at hl 0 rfl) ?_
  refine lv_bipush (v := 12) hx hb dX12_feed_53 (by decide) ?_
  refine lv_icmp_ge (tgt := 62) hx hb dX12_feed_55 (by decide) (fun c9 => absurd c9 (by decide)) (fun _ => ?_)
  refine lv_iload_n hx hb dX12_feed_58 rfl (lv_at hl 5 rfl) ?_
  refine lv_goto (tgt := 76) hx hb dX12_feed_59 (by decide) ?_
  refine lv_istore (lv' := [(7, .int p2), (6, .int 8), (0, .ref q0), (1, .int p0), (2, .int p1), (3, .int p2), (4, .int p3), (5, .int p4)]) hx hb dX12_feed_76 hl (by decide) rfl (fun ls hl => ?_)
  refine lv_aload_n hx hb dX12_feed_78 rfl (lv_at hl 2 rfl) ?_
  refine va_get (D := (dC, dI)) (ci := 12) (v := .ref q2) (C := RX12) (T := TX12) (N := 81) hx hb hts (fun w h => mc (in_X12 w h)) hown hK hP 0 rfl rfl 2 (by decide) (hts _ (mc m_203)) (fun _ h9 => h9) rfl dX12_feed_79 ?_
  refine lv_aload_n hx hb dX12_feed_82 rfl (lv_at hl 2 rfl) ?_
  refine va_get (D := (dC, dI)) (ci := 12) (v := .int (nI (n0 + 8))) (C := RX12) (T := TX12) (N := 81) hx hb hts (fun w h => mc (in_X12 w h)) hown hK hP 0 rfl rfl 5 (by decide) (hts _ (mc m_257)) (fun _ h9 => h9) rfl dX12_feed_83 ?_
  refine lv_iload hx hb dX12_feed_86 (lv_at hl 0 rfl) ?_
  refine lv_bipush (v := 24) hx hb dX12_feed_88 (by decide) ?_
  refine lv_bipush (v := 8) hx hb dX12_feed_90 (by decide) ?_
  refine lv_iload hx hb dX12_feed_92 (lv_at hl 1 rfl) ?_
  refine lv_iconst (v := 4) hx hb dX12_feed_94 (by decide) ?_
  refine lv_irem hx hb dX12_feed_95 (by decide) ?_
  refine q_topi 0 (by decide) ?_
  refine lv_imul hx hb dX12_feed_96 ?_
  refine q_topi 0 (by decide) ?_
  refine lv_isub hx hb dX12_feed_97 ?_
  refine q_topi 24 (by decide) ?_
  refine lv_ishr hx hb dX12_feed_98 ?_
  refine lv_topi (fun x125 ex125 => ?_)
  refine lv_sipush (v := 255) hx hb dX12_feed_99 (by decide) ?_
  refine lv_iand hx hb dX12_feed_102 ?_
  refine lv_topi (fun x126 ex126 => ?_)
  refine va_iast hx hb hK hP hD hS 1 0 rfl rfl (vp_in_nI (by omega) (by decide)) dX12_feed_103 (fun H locs hP hD hS => ?_)
  have hP : va_P (dC, dI) classes [(q0, .inr (12, [.ref q1, .int 0, .ref q2, .ref q3, .ref q4, .int (nI (n0 + 8)), .int x1, .int x2, .int x3, .int x4, .int x5, .int x6, .int x7, .int x8, .int x9, .int x10, .int x11, .int x12, .int x13, .int x14, .int x15, .ref q5, .ref q6, .ref q7, .ref q8, .ref q9, .ref q10, .ref q11, .ref q12, .int x16, .ref q13, .ref q14, .ref q15, .ref q16, .int x17, .ref q17, .ref q18, .ref q19, .ref q20, .ref q21, .ref q22, .ref q23, .ref q24, .ref q25, .ref q26, .ref q27, .ref q28, .int x18, .ref q29, .ref q30, .int x19, .ref q31, .ref q32, .ref q33, .ref q34, .ref q35, .int x20, .int x21, .int x22, .int x23, .int x24, .int x25, .int x26, .int x27, .int x28, .int x29, .int x30, .int x31, .int x32, .int x33, .ref q36, .ref q37, .ref q38, .ref q39, .ref q40, .int x34, .int x35, .ref q41, .ref q42, .int x36, .ref q43])), (q2, .inl (k0, 3000, .inl (upd f124 (Int32.toNatClampNeg (nI (n0 + 8))) x126)))] H := hP
  have hD : va_D A [(q0, .inr (12, [.ref q1, .int 0, .ref q2, .ref q3, .ref q4, .int (nI (n0 + 8)), .int x1, .int x2, .int x3, .int x4, .int x5, .int x6, .int x7, .int x8, .int x9, .int x10, .int x11, .int x12, .int x13, .int x14, .int x15, .ref q5, .ref q6, .ref q7, .ref q8, .ref q9, .ref q10, .ref q11, .ref q12, .int x16, .ref q13, .ref q14, .ref q15, .ref q16, .int x17, .ref q17, .ref q18, .ref q19, .ref q20, .ref q21, .ref q22, .ref q23, .ref q24, .ref q25, .ref q26, .ref q27, .ref q28, .int x18, .ref q29, .ref q30, .int x19, .ref q31, .ref q32, .ref q33, .ref q34, .ref q35, .int x20, .int x21, .int x22, .int x23, .int x24, .int x25, .int x26, .int x27, .int x28, .int x29, .int x30, .int x31, .int x32, .int x33, .ref q36, .ref q37, .ref q38, .ref q39, .ref q40, .int x34, .int x35, .ref q41, .ref q42, .int x36, .ref q43])), (q2, .inl (k0, 3000, .inl (upd f124 (Int32.toNatClampNeg (nI (n0 + 8))) x126)))] := hD
  obtain ⟨f127, ef127⟩ : ∃ z : Nat → Int32, z = (upd f124 (Int32.toNatClampNeg (nI (n0 + 8))) x126) := ⟨_, rfl⟩
  rw [← ef127] at hP hD
  have hP : va_P (dC, dI) classes [(q0, .inr (12, [.ref q1, .int 0, .ref q2, .ref q3, .ref q4, .int (nI (n0 + 8)), .int x1, .int x2, .int x3, .int x4, .int x5, .int x6, .int x7, .int x8, .int x9, .int x10, .int x11, .int x12, .int x13, .int x14, .int x15, .ref q5, .ref q6, .ref q7, .ref q8, .ref q9, .ref q10, .ref q11, .ref q12, .int x16, .ref q13, .ref q14, .ref q15, .ref q16, .int x17, .ref q17, .ref q18, .ref q19, .ref q20, .ref q21, .ref q22, .ref q23, .ref q24, .ref q25, .ref q26, .ref q27, .ref q28, .int x18, .ref q29, .ref q30, .int x19, .ref q31, .ref q32, .ref q33, .ref q34, .ref q35, .int x20, .int x21, .int x22, .int x23, .int x24, .int x25, .int x26, .int x27, .int x28, .int x29, .int x30, .int x31, .int x32, .int x33, .ref q36, .ref q37, .ref q38, .ref q39, .ref q40, .int x34, .int x35, .ref q41, .ref q42, .int x36, .ref q43])), (q2, .inl (k0, 3000, .inl f127))] H := hP
  have hD : va_D A [(q0, .inr (12, [.ref q1, .int 0, .ref q2, .ref q3, .ref q4, .int (nI (n0 + 8)), .int x1, .int x2, .int x3, .int x4, .int x5, .int x6, .int x7, .int x8, .int x9, .int x10, .int x11, .int x12, .int x13, .int x14, .int x15, .ref q5, .ref q6, .ref q7, .ref q8, .ref q9, .ref q10, .ref q11, .ref q12, .int x16, .ref q13, .ref q14, .ref q15, .ref q16, .int x17, .ref q17, .ref q18, .ref q19, .ref q20, .ref q21, .ref q22, .ref q23, .ref q24, .ref q25, .ref q26, .ref q27, .ref q28, .int x18, .ref q29, .ref q30, .int x19, .ref q31, .ref q32, .ref q33, .ref q34, .ref q35, .int x20, .int x21, .int x22, .int x23, .int x24, .int x25, .int x26, .int x27, .int x28, .int x29, .int x30, .int x31, .int x32, .int x33, .ref q36, .ref q37, .ref q38, .ref q39, .ref q40, .int x34, .int x35, .ref q41, .ref q42, .int x36, .ref q43])), (q2, .inl (k0, 3000, .inl f127))] := hD
  refine lv_aload_n hx hb dX12_feed_104 rfl (lv_at hl 2 rfl) ?_
  refine lv_dup hx hb dX12_feed_105 rfl ?_
  refine va_get (D := (dC, dI)) (ci := 12) (v := .int (nI (n0 + 8))) (C := RX12) (T := TX12) (N := 81) hx hb hts (fun w h => mc (in_X12 w h)) hown hK hP 0 rfl rfl 5 (by decide) (hts _ (mc m_257)) (fun _ h9 => h9) rfl dX12_feed_106 ?_
  refine lv_iconst (v := 1) hx hb dX12_feed_109 (by decide) ?_
  refine lv_iadd hx hb dX12_feed_110 ?_
  refine q_topi (nI (n0 + 9)) (nI_add _ 1) ?_
  refine va_put (D := (dC, dI)) (ci := 12) (v := .int (nI (n0 + 9))) (ty := .int) (C := RX12) (T := TX12) (N := 81) hx hb hts (fun w h => mc (in_X12 w h)) tyX12 tyX12_ok nmX12 hown hK hP hD hS 0 rfl rfl 5 (by decide) (hts _ (mc m_257)) (fun _ h9 => h9) rfl (by decide +kernel) (by first | rfl | decide) (by first | rfl | decide) (Nat.le_of_ble_eq_true rfl) dX12_feed_111 (fun H locs hP hD hS => ?_)
  have hP : va_P (dC, dI) classes [(q0, .inr (12, [.ref q1, .int 0, .ref q2, .ref q3, .ref q4, .int (nI (n0 + 9)), .int x1, .int x2, .int x3, .int x4, .int x5, .int x6, .int x7, .int x8, .int x9, .int x10, .int x11, .int x12, .int x13, .int x14, .int x15, .ref q5, .ref q6, .ref q7, .ref q8, .ref q9, .ref q10, .ref q11, .ref q12, .int x16, .ref q13, .ref q14, .ref q15, .ref q16, .int x17, .ref q17, .ref q18, .ref q19, .ref q20, .ref q21, .ref q22, .ref q23, .ref q24, .ref q25, .ref q26, .ref q27, .ref q28, .int x18, .ref q29, .ref q30, .int x19, .ref q31, .ref q32, .ref q33, .ref q34, .ref q35, .int x20, .int x21, .int x22, .int x23, .int x24, .int x25, .int x26, .int x27, .int x28, .int x29, .int x30, .int x31, .int x32, .int x33, .ref q36, .ref q37, .ref q38, .ref q39, .ref q40, .int x34, .int x35, .ref q41, .ref q42, .int x36, .ref q43])), (q2, .inl (k0, 3000, .inl f127))] H := hP
  have hD : va_D A [(q0, .inr (12, [.ref q1, .int 0, .ref q2, .ref q3, .ref q4, .int (nI (n0 + 9)), .int x1, .int x2, .int x3, .int x4, .int x5, .int x6, .int x7, .int x8, .int x9, .int x10, .int x11, .int x12, .int x13, .int x14, .int x15, .ref q5, .ref q6, .ref q7, .ref q8, .ref q9, .ref q10, .ref q11, .ref q12, .int x16, .ref q13, .ref q14, .ref q15, .ref q16, .int x17, .ref q17, .ref q18, .ref q19, .ref q20, .ref q21, .ref q22, .ref q23, .ref q24, .ref q25, .ref q26, .ref q27, .ref q28, .int x18, .ref q29, .ref q30, .int x19, .ref q31, .ref q32, .ref q33, .ref q34, .ref q35, .int x20, .int x21, .int x22, .int x23, .int x24, .int x25, .int x26, .int x27, .int x28, .int x29, .int x30, .int x31, .int x32, .int x33, .ref q36, .ref q37, .ref q38, .ref q39, .ref q40, .int x34, .int x35, .ref q41, .ref q42, .int x36, .ref q43])), (q2, .inl (k0, 3000, .inl f127))] := hD
  refine lv_iinc (v := 9) (lv' := [(6, .int 9), (7, .int p2), (0, .ref q0), (1, .int p0), (2, .int p1), (3, .int p2), (4, .int p3), (5, .int p4)]) hx hb dX12_feed_114 hl (k := 1) rfl (by decide) (by decide) rfl (fun ls hl => ?_)
  refine lv_goto (tgt := 23) hx hb dX12_feed_117 (by decide) ?_
  refine lv_iload hx hb dX12_feed_23 (lv_at hl 0 rfl) ?_
  refine lv_bipush (v := 20) hx hb dX12_feed_25 (by decide) ?_
  refine lv_icmp_ge (tgt := 120) hx hb dX12_feed_27 (by decide) (fun c9 => absurd c9 (by decide)) (fun _ => ?_)
  refine lv_iload hx hb dX12_feed_30 (lv_at hl 0 rfl) ?_
  refine lv_iconst (v := 4) hx hb dX12_feed_32 (by decide) ?_
  refine lv_icmp_ge (tgt := 40) hx hb dX12_feed_33 (by decide) (fun _ => ?_) (fun c9 => absurd (by decide) c9)
  refine lv_iload hx hb dX12_feed_40 (lv_at hl 0 rfl) ?_
  refine lv_bipush (v := 8) hx hb dX12_feed_42 (by decide) ?_
  refine lv_icmp_ge (tgt := 51) hx hb dX12_feed_44 (by decide) (fun _ => ?_) (fun c9 => absurd (by decide) c9)
  refine lv_iload hx hb dX12_feed_51 (lv_at hl 0 rfl) ?_
  refine lv_bipush (v := 12) hx hb dX12_feed_53 (by decide) ?_
  refine lv_icmp_ge (tgt := 62) hx hb dX12_feed_55 (by decide) (fun c9 => absurd c9 (by decide)) (fun _ => ?_)
  refine lv_iload_n hx hb dX12_feed_58 rfl (lv_at hl 5 rfl) ?_
  refine lv_goto (tgt := 76) hx hb dX12_feed_59 (by decide) ?_
  refine lv_istore (lv' := [(7, .int p2), (6, .int 9), (0, .ref q0), (1, .int p0), (2, .int p1), (3, .int p2), (4, .int p3), (5, .int p4)]) hx hb dX12_feed_76 hl (by decide) rfl (fun ls hl => ?_)
  refine lv_aload_n hx hb dX12_feed_78 rfl (lv_at hl 2 rfl) ?_
  refine va_get (D := (dC, dI)) (ci := 12) (v := .ref q2) (C := RX12) (T := TX12) (N := 81) hx hb hts (fun w h => mc (in_X12 w h)) hown hK hP 0 rfl rfl 2 (by decide) (hts _ (mc m_203)) (fun _ h9 => h9) rfl dX12_feed_79 ?_
  refine lv_aload_n hx hb dX12_feed_82 rfl (lv_at hl 2 rfl) ?_
  refine va_get (D := (dC, dI)) (ci := 12) (v := .int (nI (n0 + 9))) (C := RX12) (T := TX12) (N := 81) hx hb hts (fun w h => mc (in_X12 w h)) hown hK hP 0 rfl rfl 5 (by decide) (hts _ (mc m_257)) (fun _ h9 => h9) rfl dX12_feed_83 ?_
  refine lv_iload hx hb dX12_feed_86 (lv_at hl 0 rfl) ?_
  refine lv_bipush (v := 24) hx hb dX12_feed_88 (by decide) ?_
  refine lv_bipush (v := 8) hx hb dX12_feed_90 (by decide) ?_
  refine lv_iload hx hb dX12_feed_92 (lv_at hl 1 rfl) ?_
  refine lv_iconst (v := 4) hx hb dX12_feed_94 (by decide) ?_
  refine lv_irem hx hb dX12_feed_95 (by decide) ?_
  refine q_topi 1 (by decide) ?_
  refine lv_imul hx hb dX12_feed_96 ?_
  refine q_topi 8 (by decide) ?_
  refine lv_isub hx hb dX12_feed_97 ?_
  refine q_topi 16 (by decide) ?_
  refine lv_ishr hx hb dX12_feed_98 ?_
  refine lv_topi (fun x128 ex128 => ?_)
  refine lv_sipush (v := 255) hx hb dX12_feed_99 (by decide) ?_
  refine lv_iand hx hb dX12_feed_102 ?_
  refine lv_topi (fun x129 ex129 => ?_)
  refine va_iast hx hb hK hP hD hS 1 0 rfl rfl (vp_in_nI (by omega) (by decide)) dX12_feed_103 (fun H locs hP hD hS => ?_)
  have hP : va_P (dC, dI) classes [(q0, .inr (12, [.ref q1, .int 0, .ref q2, .ref q3, .ref q4, .int (nI (n0 + 9)), .int x1, .int x2, .int x3, .int x4, .int x5, .int x6, .int x7, .int x8, .int x9, .int x10, .int x11, .int x12, .int x13, .int x14, .int x15, .ref q5, .ref q6, .ref q7, .ref q8, .ref q9, .ref q10, .ref q11, .ref q12, .int x16, .ref q13, .ref q14, .ref q15, .ref q16, .int x17, .ref q17, .ref q18, .ref q19, .ref q20, .ref q21, .ref q22, .ref q23, .ref q24, .ref q25, .ref q26, .ref q27, .ref q28, .int x18, .ref q29, .ref q30, .int x19, .ref q31, .ref q32, .ref q33, .ref q34, .ref q35, .int x20, .int x21, .int x22, .int x23, .int x24, .int x25, .int x26, .int x27, .int x28, .int x29, .int x30, .int x31, .int x32, .int x33, .ref q36, .ref q37, .ref q38, .ref q39, .ref q40, .int x34, .int x35, .ref q41, .ref q42, .int x36, .ref q43])), (q2, .inl (k0, 3000, .inl (upd f127 (Int32.toNatClampNeg (nI (n0 + 9))) x129)))] H := hP
  have hD : va_D A [(q0, .inr (12, [.ref q1, .int 0, .ref q2, .ref q3, .ref q4, .int (nI (n0 + 9)), .int x1, .int x2, .int x3, .int x4, .int x5, .int x6, .int x7, .int x8, .int x9, .int x10, .int x11, .int x12, .int x13, .int x14, .int x15, .ref q5, .ref q6, .ref q7, .ref q8, .ref q9, .ref q10, .ref q11, .ref q12, .int x16, .ref q13, .ref q14, .ref q15, .ref q16, .int x17, .ref q17, .ref q18, .ref q19, .ref q20, .ref q21, .ref q22, .ref q23, .ref q24, .ref q25, .ref q26, .ref q27, .ref q28, .int x18, .ref q29, .ref q30, .int x19, .ref q31, .ref q32, .ref q33, .ref q34, .ref q35, .int x20, .int x21, .int x22, .int x23, .int x24, .int x25, .int x26, .int x27, .int x28, .int x29, .int x30, .int x31, .int x32, .int x33, .ref q36, .ref q37, .ref q38, .ref q39, .ref q40, .int x34, .int x35, .ref q41, .ref q42, .int x36, .ref q43])), (q2, .inl (k0, 3000, .inl (upd f127 (Int32.toNatClampNeg (nI (n0 + 9))) x129)))] := hD
  obtain ⟨f130, ef130⟩ : ∃ z : Nat → Int32, z = (upd f127 (Int32.toNatClampNeg (nI (n0 + 9))) x129) := ⟨_, rfl⟩
  rw [← ef130] at hP hD
  have hP : va_P (dC, dI) classes [(q0, .inr (12, [.ref q1, .int 0, .ref q2, .ref q3, .ref q4, .int (nI (n0 + 9)), .int x1, .int x2, .int x3, .int x4, .int x5, .int x6, .int x7, .int x8, .int x9, .int x10, .int x11, .int x12, .int x13, .int x14, .int x15, .ref q5, .ref q6, .ref q7, .ref q8, .ref q9, .ref q10, .ref q11, .ref q12, .int x16, .ref q13, .ref q14, .ref q15, .ref q16, .int x17, .ref q17, .ref q18, .ref q19, .ref q20, .ref q21, .ref q22, .ref q23, .ref q24, .ref q25, .ref q26, .ref q27, .ref q28, .int x18, .ref q29, .ref q30, .int x19, .ref q31, .ref q32, .ref q33, .ref q34, .ref q35, .int x20, .int x21, .int x22, .int x23, .int x24, .int x25, .int x26, .int x27, .int x28, .int x29, .int x30, .int x31, .int x32, .int x33, .ref q36, .ref q37, .ref q38, .ref q39, .ref q40, .int x34, .int x35, .ref q41, .ref q42, .int x36, .ref q43])), (q2, .inl (k0, 3000, .inl f130))] H := hP
  have hD : va_D A [(q0, .inr (12, [.ref q1, .int 0, .ref q2, .ref q3, .ref q4, .int (nI (n0 + 9)), .int x1, .int x2, .int x3, .int x4, .int x5, .int x6, .int x7, .int x8, .int x9, .int x10, .int x11, .int x12, .int x13, .int x14, .int x15, .ref q5, .ref q6, .ref q7, .ref q8, .ref q9, .ref q10, .ref q11, .ref q12, .int x16, .ref q13, .ref q14, .ref q15, .ref q16, .int x17, .ref q17, .ref q18, .ref q19, .ref q20, .ref q21, .ref q22, .ref q23, .ref q24, .ref q25, .ref q26, .ref q27, .ref q28, .int x18, .ref q29, .ref q30, .int x19, .ref q31, .ref q32, .ref q33, .ref q34, .ref q35, .int x20, .int x21, .int x22, .int x23, .int x24, .int x25, .int x26, .int x27, .int x28, .int x29, .int x30, .int x31, .int x32, .int x33, .ref q36, .ref q37, .ref q38, .ref q39, .ref q40, .int x34, .int x35, .ref q41, .ref q42, .int x36, .ref q43])), (q2, .inl (k0, 3000, .inl f130))] := hD
  refine lv_aload_n hx hb dX12_feed_104 rfl (lv_at hl 2 rfl) ?_
  refine lv_dup hx hb dX12_feed_105 rfl ?_
  refine va_get (D := (dC, dI)) (ci := 12) (v := .int (nI (n0 + 9))) (C := RX12) (T := TX12) (N := 81) hx hb hts (fun w h => mc (in_X12 w h)) hown hK hP 0 rfl rfl 5 (by decide) (hts _ (mc m_257)) (fun _ h9 => h9) rfl dX12_feed_106 ?_
  refine lv_iconst (v := 1) hx hb dX12_feed_109 (by decide) ?_
  refine lv_iadd hx hb dX12_feed_110 ?_
  refine q_topi (nI (n0 + 10)) (nI_add _ 1) ?_
  refine va_put (D := (dC, dI)) (ci := 12) (v := .int (nI (n0 + 10))) (ty := .int) (C := RX12) (T := TX12) (N := 81) hx hb hts (fun w h => mc (in_X12 w h)) tyX12 tyX12_ok nmX12 hown hK hP hD hS 0 rfl rfl 5 (by decide) (hts _ (mc m_257)) (fun _ h9 => h9) rfl (by decide +kernel) (by first | rfl | decide) (by first | rfl | decide) (Nat.le_of_ble_eq_true rfl) dX12_feed_111 (fun H locs hP hD hS => ?_)
  have hP : va_P (dC, dI) classes [(q0, .inr (12, [.ref q1, .int 0, .ref q2, .ref q3, .ref q4, .int (nI (n0 + 10)), .int x1, .int x2, .int x3, .int x4, .int x5, .int x6, .int x7, .int x8, .int x9, .int x10, .int x11, .int x12, .int x13, .int x14, .int x15, .ref q5, .ref q6, .ref q7, .ref q8, .ref q9, .ref q10, .ref q11, .ref q12, .int x16, .ref q13, .ref q14, .ref q15, .ref q16, .int x17, .ref q17, .ref q18, .ref q19, .ref q20, .ref q21, .ref q22, .ref q23, .ref q24, .ref q25, .ref q26, .ref q27, .ref q28, .int x18, .ref q29, .ref q30, .int x19, .ref q31, .ref q32, .ref q33, .ref q34, .ref q35, .int x20, .int x21, .int x22, .int x23, .int x24, .int x25, .int x26, .int x27, .int x28, .int x29, .int x30, .int x31, .int x32, .int x33, .ref q36, .ref q37, .ref q38, .ref q39, .ref q40, .int x34, .int x35, .ref q41, .ref q42, .int x36, .ref q43])), (q2, .inl (k0, 3000, .inl f130))] H := hP
  have hD : va_D A [(q0, .inr (12, [.ref q1, .int 0, .ref q2, .ref q3, .ref q4, .int (nI (n0 + 10)), .int x1, .int x2, .int x3, .int x4, .int x5, .int x6, .int x7, .int x8, .int x9, .int x10, .int x11, .int x12, .int x13, .int x14, .int x15, .ref q5, .ref q6, .ref q7, .ref q8, .ref q9, .ref q10, .ref q11, .ref q12, .int x16, .ref q13, .ref q14, .ref q15, .ref q16, .int x17, .ref q17, .ref q18, .ref q19, .ref q20, .ref q21, .ref q22, .ref q23, .ref q24, .ref q25, .ref q26, .ref q27, .ref q28, .int x18, .ref q29, .ref q30, .int x19, .ref q31, .ref q32, .ref q33, .ref q34, .ref q35, .int x20, .int x21, .int x22, .int x23, .int x24, .int x25, .int x26, .int x27, .int x28, .int x29, .int x30, .int x31, .int x32, .int x33, .ref q36, .ref q37, .ref q38, .ref q39, .ref q40, .int x34, .int x35, .ref q41, .ref q42, .int x36, .ref q43])), (q2, .inl (k0, 3000, .inl f130))] := hD
  refine lv_iinc (v := 10) (lv' := [(6, .int 10), (7, .int p2), (0, .ref q0), (1, .int p0), (2, .int p1), (3, .int p2), (4, .int p3), (5, .int p4)]) hx hb dX12_feed_114 hl (k := 1) rfl (by decide) (by decide) rfl (fun ls hl => ?_)
  refine lv_goto (tgt := 23) hx hb dX12_feed_117 (by decide) ?_
  refine lv_iload hx hb dX12_feed_23 (lv_at hl 0 rfl) ?_
  refine lv_bipush (v := 20) hx hb dX12_feed_25 (by decide) ?_
  refine lv_icmp_ge (tgt := 120) hx hb dX12_feed_27 (by decide) (fun c9 => absurd c9 (by decide)) (fun _ => ?_)
  refine lv_iload hx hb dX12_feed_30 (lv_at hl 0 rfl) ?_
  refine lv_iconst (v := 4) hx hb dX12_feed_32 (by decide) ?_
  refine lv_icmp_ge (tgt := 40) hx hb dX12_feed_33 (by decide) (fun _ => ?_) (fun c9 => absurd (by decide) c9)
  refine lv_iload hx hb dX12_feed_40 (lv_at hl 0 rfl) ?_
  refine lv_bipush (v := 8) hx hb dX12_feed_42 (by decide) ?_
  refine lv_icmp_ge (tgt := 51) hx hb dX12_feed_44 (by decide) (fun _ => ?_) (fun c9 => absurd (by decide) c9)
  refine lv_iload hx hb dX12_feed_51 (lv_at hl 0 rfl) ?_
  refine lv_bipush (v := 12) hx hb dX12_feed_53 (by decide) ?_
  refine lv_icmp_ge (tgt := 62) hx hb dX12_feed_55 (by decide) (fun c9 => absurd c9 (by decide)) (fun _ => ?_)
  refine lv_iload_n hx hb dX12_feed_58 rfl (lv_at hl 5 rfl) ?_
  refine lv_goto (tgt := 76) hx hb dX12_feed_59 (by decide) ?_
  refine lv_istore (lv' := [(7, .int p2), (6, .int 10), (0, .ref q0), (1, .int p0), (2, .int p1), (3, .int p2), (4, .int p3), (5, .int p4)]) hx hb dX12_feed_76 hl (by decide) rfl (fun ls hl => ?_)
  refine lv_aload_n hx hb dX12_feed_78 rfl (lv_at hl 2 rfl) ?_
  refine va_get (D := (dC, dI)) (ci := 12) (v := .ref q2) (C := RX12) (T := TX12) (N := 81) hx hb hts (fun w h => mc (in_X12 w h)) hown hK hP 0 rfl rfl 2 (by decide) (hts _ (mc m_203)) (fun _ h9 => h9) rfl dX12_feed_79 ?_
  refine lv_aload_n hx hb dX12_feed_82 rfl (lv_at hl 2 rfl) ?_
  refine va_get (D := (dC, dI)) (ci := 12) (v := .int (nI (n0 + 10))) (C := RX12) (T := TX12) (N := 81) hx hb hts (fun w h => mc (in_X12 w h)) hown hK hP 0 rfl rfl 5 (by decide) (hts _ (mc m_257)) (fun _ h9 => h9) rfl dX12_feed_83 ?_
  refine lv_iload hx hb dX12_feed_86 (lv_at hl 0 rfl) ?_
  refine lv_bipush (v := 24) hx hb dX12_feed_88 (by decide) ?_
  refine lv_bipush (v := 8) hx hb dX12_feed_90 (by decide) ?_
  refine lv_iload hx hb dX12_feed_92 (lv_at hl 1 rfl) ?_
  refine lv_iconst (v := 4) hx hb dX12_feed_94 (by decide) ?_
  refine lv_irem hx hb dX12_feed_95 (by decide) ?_
  refine q_topi 2 (by decide) ?_
  refine lv_imul hx hb dX12_feed_96 ?_
  refine q_topi 16 (by decide) ?_
  refine lv_isub hx hb dX12_feed_97 ?_
  refine q_topi 8 (by decide) ?_
  refine lv_ishr hx hb dX12_feed_98 ?_
  refine lv_topi (fun x131 ex131 => ?_)
  refine lv_sipush (v := 255) hx hb dX12_feed_99 (by decide) ?_
  refine lv_iand hx hb dX12_feed_102 ?_
  refine lv_topi (fun x132 ex132 => ?_)
  refine va_iast hx hb hK hP hD hS 1 0 rfl rfl (vp_in_nI (by omega) (by decide)) dX12_feed_103 (fun H locs hP hD hS => ?_)
  have hP : va_P (dC, dI) classes [(q0, .inr (12, [.ref q1, .int 0, .ref q2, .ref q3, .ref q4, .int (nI (n0 + 10)), .int x1, .int x2, .int x3, .int x4, .int x5, .int x6, .int x7, .int x8, .int x9, .int x10, .int x11, .int x12, .int x13, .int x14, .int x15, .ref q5, .ref q6, .ref q7, .ref q8, .ref q9, .ref q10, .ref q11, .ref q12, .int x16, .ref q13, .ref q14, .ref q15, .ref q16, .int x17, .ref q17, .ref q18, .ref q19, .ref q20, .ref q21, .ref q22, .ref q23, .ref q24, .ref q25, .ref q26, .ref q27, .ref q28, .int x18, .ref q29, .ref q30, .int x19, .ref q31, .ref q32, .ref q33, .ref q34, .ref q35, .int x20, .int x21, .int x22, .int x23, .int x24, .int x25, .int x26, .int x27, .int x28, .int x29, .int x30, .int x31, .int x32, .int x33, .ref q36, .ref q37, .ref q38, .ref q39, .ref q40, .int x34, .int x35, .ref q41, .ref q42, .int x36, .ref q43])), (q2, .inl (k0, 3000, .inl (upd f130 (Int32.toNatClampNeg (nI (n0 + 10))) x132)))] H := hP
  have hD : va_D A [(q0, .inr (12, [.ref q1, .int 0, .ref q2, .ref q3, .ref q4, .int (nI (n0 + 10)), .int x1, .int x2, .int x3, .int x4, .int x5, .int x6, .int x7, .int x8, .int x9, .int x10, .int x11, .int x12, .int x13, .int x14, .int x15, .ref q5, .ref q6, .ref q7, .ref q8, .ref q9, .ref q10, .ref q11, .ref q12, .int x16, .ref q13, .ref q14, .ref q15, .ref q16, .int x17, .ref q17, .ref q18, .ref q19, .ref q20, .ref q21, .ref q22, .ref q23, .ref q24, .ref q25, .ref q26, .ref q27, .ref q28, .int x18, .ref q29, .ref q30, .int x19, .ref q31, .ref q32, .ref q33, .ref q34, .ref q35, .int x20, .int x21, .int x22, .int x23, .int x24, .int x25, .int x26, .int x27, .int x28, .int x29, .int x30, .int x31, .int x32, .int x33, .ref q36, .ref q37, .ref q38, .ref q39, .ref q40, .int x34, .int x35, .ref q41, .ref q42, .int x36, .ref q43])), (q2, .inl (k0, 3000, .inl (upd f130 (Int32.toNatClampNeg (nI (n0 + 10))) x132)))] := hD
  obtain ⟨f133, ef133⟩ : ∃ z : Nat → Int32, z = (upd f130 (Int32.toNatClampNeg (nI (n0 + 10))) x132) := ⟨_, rfl⟩
  rw [← ef133] at hP hD
  have hP : va_P (dC, dI) classes [(q0, .inr (12, [.ref q1, .int 0, .ref q2, .ref q3, .ref q4, .int (nI (n0 + 10)), .int x1, .int x2, .int x3, .int x4, .int x5, .int x6, .int x7, .int x8, .int x9, .int x10, .int x11, .int x12, .int x13, .int x14, .int x15, .ref q5, .ref q6, .ref q7, .ref q8, .ref q9, .ref q10, .ref q11, .ref q12, .int x16, .ref q13, .ref q14, .ref q15, .ref q16, .int x17, .ref q17, .ref q18, .ref q19, .ref q20, .ref q21, .ref q22, .ref q23, .ref q24, .ref q25, .ref q26, .ref q27, .ref q28, .int x18, .ref q29, .ref q30, .int x19, .ref q31, .ref q32, .ref q33, .ref q34, .ref q35, .int x20, .int x21, .int x22, .int x23, .int x24, .int x25, .int x26, .int x27, .int x28, .int x29, .int x30, .int x31, .int x32, .int x33, .ref q36, .ref q37, .ref q38, .ref q39, .ref q40, .int x34, .int x35, .ref q41, .ref q42, .int x36, .ref q43])), (q2, .inl (k0, 3000, .inl f133))] H := hP
  have hD : va_D A [(q0, .inr (12, [.ref q1, .int 0, .ref q2, .ref q3, .ref q4, .int (nI (n0 + 10)), .int x1, .int x2, .int x3, .int x4, .int x5, .int x6, .int x7, .int x8, .int x9, .int x10, .int x11, .int x12, .int x13, .int x14, .int x15, .ref q5, .ref q6, .ref q7, .ref q8, .ref q9, .ref q10, .ref q11, .ref q12, .int x16, .ref q13, .ref q14, .ref q15, .ref q16, .int x17, .ref q17, .ref q18, .ref q19, .ref q20, .ref q21, .ref q22, .ref q23, .ref q24, .ref q25, .ref q26, .ref q27, .ref q28, .int x18, .ref q29, .ref q30, .int x19, .ref q31, .ref q32, .ref q33, .ref q34, .ref q35, .int x20, .int x21, .int x22, .int x23, .int x24, .int x25, .int x26, .int x27, .int x28, .int x29, .int x30, .int x31, .int x32, .int x33, .ref q36, .ref q37, .ref q38, .ref q39, .ref q40, .int x34, .int x35, .ref q41, .ref q42, .int x36, .ref q43])), (q2, .inl (k0, 3000, .inl f133))] := hD
  refine lv_aload_n hx hb dX12_feed_104 rfl (lv_at hl 2 rfl) ?_
  refine lv_dup hx hb dX12_feed_105 rfl ?_
  refine va_get (D := (dC, dI)) (ci := 12) (v := .int (nI (n0 + 10))) (C := RX12) (T := TX12) (N := 81) hx hb hts (fun w h => mc (in_X12 w h)) hown hK hP 0 rfl rfl 5 (by decide) (hts _ (mc m_257)) (fun _ h9 => h9) rfl dX12_feed_106 ?_
  refine lv_iconst (v := 1) hx hb dX12_feed_109 (by decide) ?_
  refine lv_iadd hx hb dX12_feed_110 ?_
  refine q_topi (nI (n0 + 11)) (nI_add _ 1) ?_
  refine va_put (D := (dC, dI)) (ci := 12) (v := .int (nI (n0 + 11))) (ty := .int) (C := RX12) (T := TX12) (N := 81) hx hb hts (fun w h => mc (in_X12 w h)) tyX12 tyX12_ok nmX12 hown hK hP hD hS 0 rfl rfl 5 (by decide) (hts _ (mc m_257)) (fun _ h9 => h9) rfl (by decide +kernel) (by first | rfl | decide) (by first | rfl | decide) (Nat.le_of_ble_eq_true rfl) dX12_feed_111 (fun H locs hP hD hS => ?_)
  have hP : va_P (dC, dI) classes [(q0, .inr (12, [.ref q1, .int 0, .ref q2, .ref q3, .ref q4, .int (nI (n0 + 11)), .int x1, .int x2, .int x3, .int x4, .int x5, .int x6, .int x7, .int x8, .int x9, .int x10, .int x11, .int x12, .int x13, .int x14, .int x15, .ref q5, .ref q6, .ref q7, .ref q8, .ref q9, .ref q10, .ref q11, .ref q12, .int x16, .ref q13, .ref q14, .ref q15, .ref q16, .int x17, .ref q17, .ref q18, .ref q19, .ref q20, .ref q21, .ref q22, .ref q23, .ref q24, .ref q25, .ref q26, .ref q27, .ref q28, .int x18, .ref q29, .ref q30, .int x19, .ref q31, .ref q32, .ref q33, .ref q34, .ref q35, .int x20, .int x21, .int x22, .int x23, .int x24, .int x25, .int x26, .int x27, .int x28, .int x29, .int x30, .int x31, .int x32, .int x33, .ref q36, .ref q37, .ref q38, .ref q39, .ref q40, .int x34, .int x35, .ref q41, .ref q42, .int x36, .ref q43])), (q2, .inl (k0, 3000, .inl f133))] H := hP
  have hD : va_D A [(q0, .inr (12, [.ref q1, .int 0, .ref q2, .ref q3, .ref q4, .int (nI (n0 + 11)), .int x1, .int x2, .int x3, .int x4, .int x5, .int x6, .int x7, .int x8, .int x9, .int x10, .int x11, .int x12, .int x13, .int x14, .int x15, .ref q5, .ref q6, .ref q7, .ref q8, .ref q9, .ref q10, .ref q11, .ref q12, .int x16, .ref q13, .ref q14, .ref q15, .ref q16, .int x17, .ref q17, .ref q18, .ref q19, .ref q20, .ref q21, .ref q22, .ref q23, .ref q24, .ref q25, .ref q26, .ref q27, .ref q28, .int x18, .ref q29, .ref q30, .int x19, .ref q31, .ref q32, .ref q33, .ref q34, .ref q35, .int x20, .int x21, .int x22, .int x23, .int x24, .int x25, .int x26, .int x27, .int x28, .int x29, .int x30, .int x31, .int x32, .int x33, .ref q36, .ref q37, .ref q38, .ref q39, .ref q40, .int x34, .int x35, .ref q41, .ref q42, .int x36, .ref q43])), (q2, .inl (k0, 3000, .inl f133))] := hD
  refine lv_iinc (v := 11) (lv' := [(6, .int 11), (7, .int p2), (0, .ref q0), (1, .int p0), (2, .int p1), (3, .int p2), (4, .int p3), (5, .int p4)]) hx hb dX12_feed_114 hl (k := 1) rfl (by decide) (by decide) rfl (fun ls hl => ?_)
  refine lv_goto (tgt := 23) hx hb dX12_feed_117 (by decide) ?_
  refine lv_iload hx hb dX12_feed_23 (lv_at hl 0 rfl) ?_
  refine lv_bipush (v := 20) hx hb dX12_feed_25 (by decide) ?_
  refine lv_icmp_ge (tgt := 120) hx hb dX12_feed_27 (by decide) (fun c9 => absurd c9 (by decide)) (fun _ => ?_)
  refine lv_iload hx hb dX12_feed_30 (lv_at hl 0 rfl) ?_
  refine lv_iconst (v := 4) hx hb dX12_feed_32 (by decide) ?_
  refine lv_icmp_ge (tgt := 40) hx hb dX12_feed_33 (by decide) (fun _ => ?_) (fun c9 => absurd (by decide) c9)
  refine lv_iload hx hb dX12_feed_40 (lv_at hl 0 rfl) ?_
  refine lv_bipush (v := 8) hx hb dX12_feed_42 (by decide) ?_
  refine lv_icmp_ge (tgt := 51) hx hb dX12_feed_44 (by decide) (fun _ => ?_) (fun c9 => absurd (by decide) c9)
  refine lv_iload hx hb dX12_feed_51 (lv_at hl 0 rfl) ?_
  refine lv_bipush (v := 12) hx hb dX12_feed_53 (by decide) ?_
  refine lv_icmp_ge (tgt := 62) hx hb dX12_feed_55 (by decide) (fun c9 => absurd c9 (by decide)) (fun _ => ?_)
  refine lv_iload_n hx hb dX12_feed_58 rfl (lv_at hl 5 rfl) ?_
  refine lv_goto (tgt := 76) hx hb dX12_feed_59 (by decide) ?_
  refine lv_istore (lv' := [(7, .int p2), (6, .int 11), (0, .ref q0), (1, .int p0), (2, .int p1), (3, .int p2), (4, .int p3), (5, .int p4)]) hx hb dX12_feed_76 hl (by decide) rfl (fun ls hl => ?_)
  refine lv_aload_n hx hb dX12_feed_78 rfl (lv_at hl 2 rfl) ?_
  refine va_get (D := (dC, dI)) (ci := 12) (v := .ref q2) (C := RX12) (T := TX12) (N := 81) hx hb hts (fun w h => mc (in_X12 w h)) hown hK hP 0 rfl rfl 2 (by decide) (hts _ (mc m_203)) (fun _ h9 => h9) rfl dX12_feed_79 ?_
  refine lv_aload_n hx hb dX12_feed_82 rfl (lv_at hl 2 rfl) ?_
  refine va_get (D := (dC, dI)) (ci := 12) (v := .int (nI (n0 + 11))) (C := RX12) (T := TX12) (N := 81) hx hb hts (fun w h => mc (in_X12 w h)) hown hK hP 0 rfl rfl 5 (by decide) (hts _ (mc m_257)) (fun _ h9 => h9) rfl dX12_feed_83 ?_
  refine lv_iload hx hb dX12_feed_86 (lv_at hl 0 rfl) ?_
  refine lv_bipush (v := 24) hx hb dX12_feed_88 (by decide) ?_
  refine lv_bipush (v := 8) hx hb dX12_feed_90 (by decide) ?_
  refine lv_iload hx hb dX12_feed_92 (lv_at hl 1 rfl) ?_
  refine lv_iconst (v := 4) hx hb dX12_feed_94 (by decide) ?_
  refine lv_irem hx hb dX12_feed_95 (by decide) ?_
  refine q_topi 3 (by decide) ?_
  refine lv_imul hx hb dX12_feed_96 ?_
  refine q_topi 24 (by decide) ?_
  refine lv_isub hx hb dX12_feed_97 ?_
  refine q_topi 0 (by decide) ?_
  refine lv_ishr hx hb dX12_feed_98 ?_
  refine lv_topi (fun x134 ex134 => ?_)
  refine lv_sipush (v := 255) hx hb dX12_feed_99 (by decide) ?_
  refine lv_iand hx hb dX12_feed_102 ?_
  refine lv_topi (fun x135 ex135 => ?_)
  refine va_iast hx hb hK hP hD hS 1 0 rfl rfl (vp_in_nI (by omega) (by decide)) dX12_feed_103 (fun H locs hP hD hS => ?_)
  have hP : va_P (dC, dI) classes [(q0, .inr (12, [.ref q1, .int 0, .ref q2, .ref q3, .ref q4, .int (nI (n0 + 11)), .int x1, .int x2, .int x3, .int x4, .int x5, .int x6, .int x7, .int x8, .int x9, .int x10, .int x11, .int x12, .int x13, .int x14, .int x15, .ref q5, .ref q6, .ref q7, .ref q8, .ref q9, .ref q10, .ref q11, .ref q12, .int x16, .ref q13, .ref q14, .ref q15, .ref q16, .int x17, .ref q17, .ref q18, .ref q19, .ref q20, .ref q21, .ref q22, .ref q23, .ref q24, .ref q25, .ref q26, .ref q27, .ref q28, .int x18, .ref q29, .ref q30, .int x19, .ref q31, .ref q32, .ref q33, .ref q34, .ref q35, .int x20, .int x21, .int x22, .int x23, .int x24, .int x25, .int x26, .int x27, .int x28, .int x29, .int x30, .int x31, .int x32, .int x33, .ref q36, .ref q37, .ref q38, .ref q39, .ref q40, .int x34, .int x35, .ref q41, .ref q42, .int x36, .ref q43])), (q2, .inl (k0, 3000, .inl (upd f133 (Int32.toNatClampNeg (nI (n0 + 11))) x135)))] H := hP
  have hD : va_D A [(q0, .inr (12, [.ref q1, .int 0, .ref q2, .ref q3, .ref q4, .int (nI (n0 + 11)), .int x1, .int x2, .int x3, .int x4, .int x5, .int x6, .int x7, .int x8, .int x9, .int x10, .int x11, .int x12, .int x13, .int x14, .int x15, .ref q5, .ref q6, .ref q7, .ref q8, .ref q9, .ref q10, .ref q11, .ref q12, .int x16, .ref q13, .ref q14, .ref q15, .ref q16, .int x17, .ref q17, .ref q18, .ref q19, .ref q20, .ref q21, .ref q22, .ref q23, .ref q24, .ref q25, .ref q26, .ref q27, .ref q28, .int x18, .ref q29, .ref q30, .int x19, .ref q31, .ref q32, .ref q33, .ref q34, .ref q35, .int x20, .int x21, .int x22, .int x23, .int x24, .int x25, .int x26, .int x27, .int x28, .int x29, .int x30, .int x31, .int x32, .int x33, .ref q36, .ref q37, .ref q38, .ref q39, .ref q40, .int x34, .int x35, .ref q41, .ref q42, .int x36, .ref q43])), (q2, .inl (k0, 3000, .inl (upd f133 (Int32.toNatClampNeg (nI (n0 + 11))) x135)))] := hD
  obtain ⟨f136, ef136⟩ : ∃ z : Nat → Int32, z = (upd f133 (Int32.toNatClampNeg (nI (n0 + 11))) x135) := ⟨_, rfl⟩
  rw [← ef136] at hP hD
  have hP : va_P (dC, dI) classes [(q0, .inr (12, [.ref q1, .int 0, .ref q2, .ref q3, .ref q4, .int (nI (n0 + 11)), .int x1, .int x2, .int x3, .int x4, .int x5, .int x6, .int x7, .int x8, .int x9, .int x10, .int x11, .int x12, .int x13, .int x14, .int x15, .ref q5, .ref q6, .ref q7, .ref q8, .ref q9, .ref q10, .ref q11, .ref q12, .int x16, .ref q13, .ref q14, .ref q15, .ref q16, .int x17, .ref q17, .ref q18, .ref q19, .ref q20, .ref q21, .ref q22, .ref q23, .ref q24, .ref q25, .ref q26, .ref q27, .ref q28, .int x18, .ref q29, .ref q30, .int x19, .ref q31, .ref q32, .ref q33, .ref q34, .ref q35, .int x20, .int x21, .int x22, .int x23, .int x24, .int x25, .int x26, .int x27, .int x28, .int x29, .int x30, .int x31, .int x32, .int x33, .ref q36, .ref q37, .ref q38, .ref q39, .ref q40, .int x34, .int x35, .ref q41, .ref q42, .int x36, .ref q43])), (q2, .inl (k0, 3000, .inl f136))] H := hP
  have hD : va_D A [(q0, .inr (12, [.ref q1, .int 0, .ref q2, .ref q3, .ref q4, .int (nI (n0 + 11)), .int x1, .int x2, .int x3, .int x4, .int x5, .int x6, .int x7, .int x8, .int x9, .int x10, .int x11, .int x12, .int x13, .int x14, .int x15, .ref q5, .ref q6, .ref q7, .ref q8, .ref q9, .ref q10, .ref q11, .ref q12, .int x16, .ref q13, .ref q14, .ref q15, .ref q16, .int x17, .ref q17, .ref q18, .ref q19, .ref q20, .ref q21, .ref q22, .ref q23, .ref q24, .ref q25, .ref q26, .ref q27, .ref q28, .int x18, .ref q29, .ref q30, .int x19, .ref q31, .ref q32, .ref q33, .ref q34, .ref q35, .int x20, .int x21, .int x22, .int x23, .int x24, .int x25, .int x26, .int x27, .int x28, .int x29, .int x30, .int x31, .int x32, .int x33, .ref q36, .ref q37, .ref q38, .ref q39, .ref q40, .int x34, .int x35, .ref q41, .ref q42, .int x36, .ref q43])), (q2, .inl (k0, 3000, .inl f136))] := hD
  refine lv_aload_n hx hb dX12_feed_104 rfl (lv_at hl 2 rfl) ?_
  refine lv_dup hx hb dX12_feed_105 rfl ?_
  refine va_get (D := (dC, dI)) (ci := 12) (v := .int (nI (n0 + 11))) (C := RX12) (T := TX12) (N := 81) hx hb hts (fun w h => mc (in_X12 w h)) hown hK hP 0 rfl rfl 5 (by decide) (hts _ (mc m_257)) (fun _ h9 => h9) rfl dX12_feed_106 ?_
  refine lv_iconst (v := 1) hx hb dX12_feed_109 (by decide) ?_
  refine lv_iadd hx hb dX12_feed_110 ?_
  refine q_topi (nI (n0 + 12)) (nI_add _ 1) ?_
  refine va_put (D := (dC, dI)) (ci := 12) (v := .int (nI (n0 + 12))) (ty := .int) (C := RX12) (T := TX12) (N := 81) hx hb hts (fun w h => mc (in_X12 w h)) tyX12 tyX12_ok nmX12 hown hK hP hD hS 0 rfl rfl 5 (by decide) (hts _ (mc m_257)) (fun _ h9 => h9) rfl (by decide +kernel) (by first | rfl | decide) (by first | rfl | decide) (Nat.le_of_ble_eq_true rfl) dX12_feed_111 (fun H locs hP hD hS => ?_)
  have hP : va_P (dC, dI) classes [(q0, .inr (12, [.ref q1, .int 0, .ref q2, .ref q3, .ref q4, .int (nI (n0 + 12)), .int x1, .int x2, .int x3, .int x4, .int x5, .int x6, .int x7, .int x8, .int x9, .int x10, .int x11, .int x12, .int x13, .int x14, .int x15, .ref q5, .ref q6, .ref q7, .ref q8, .ref q9, .ref q10, .ref q11, .ref q12, .int x16, .ref q13, .ref q14, .ref q15, .ref q16, .int x17, .ref q17, .ref q18, .ref q19, .ref q20, .ref q21, .ref q22, .ref q23, .ref q24, .ref q25, .ref q26, .ref q27, .ref q28, .int x18, .ref q29, .ref q30, .int x19, .ref q31, .ref q32, .ref q33, .ref q34, .ref q35, .int x20, .int x21, .int x22, .int x23, .int x24, .int x25, .int x26, .int x27, .int x28, .int x29, .int x30, .int x31, .int x32, .int x33, .ref q36, .ref q37, .ref q38, .ref q39, .ref q40, .int x34, .int x35, .ref q41, .ref q42, .int x36, .ref q43])), (q2, .inl (k0, 3000, .inl f136))] H := hP
  have hD : va_D A [(q0, .inr (12, [.ref q1, .int 0, .ref q2, .ref q3, .ref q4, .int (nI (n0 + 12)), .int x1, .int x2, .int x3, .int x4, .int x5, .int x6, .int x7, .int x8, .int x9, .int x10, .int x11, .int x12, .int x13, .int x14, .int x15, .ref q5, .ref q6, .ref q7, .ref q8, .ref q9, .ref q10, .ref q11, .ref q12, .int x16, .ref q13, .ref q14, .ref q15, .ref q16, .int x17, .ref q17, .ref q18, .ref q19, .ref q20, .ref q21, .ref q22, .ref q23, .ref q24, .ref q25, .ref q26, .ref q27, .ref q28, .int x18, .ref q29, .ref q30, .int x19, .ref q31, .ref q32, .ref q33, .ref q34, .ref q35, .int x20, .int x21, .int x22, .int x23, .int x24, .int x25, .int x26, .int x27, .int x28, .int x29, .int x30, .int x31, .int x32, .int x33, .ref q36, .ref q37, .ref q38, .ref q39, .ref q40, .int x34, .int x35, .ref q41, .ref q42, .int x36, .ref q43])), (q2, .inl (k0, 3000, .inl f136))] := hD
  refine lv_iinc (v := 12) (lv' := [(6, .int 12), (7, .int p2), (0, .ref q0), (1, .int p0), (2, .int p1), (3, .int p2), (4, .int p3), (5, .int p4)]) hx hb dX12_feed_114 hl (k := 1) rfl (by decide) (by decide) rfl (fun ls hl => ?_)
  refine lv_goto (tgt := 23) hx hb dX12_feed_117 (by decide) ?_
  refine lv_iload hx hb dX12_feed_23 (lv_at hl 0 rfl) ?_
  refine lv_bipush (v := 20) hx hb dX12_feed_25 (by decide) ?_
  refine lv_icmp_ge (tgt := 120) hx hb dX12_feed_27 (by decide) (fun c9 => absurd c9 (by decide)) (fun _ => ?_)
  refine lv_iload hx hb dX12_feed_30 (lv_at hl 0 rfl) ?_
  refine lv_iconst (v := 4) hx hb dX12_feed_32 (by decide) ?_
  refine lv_icmp_ge (tgt := 40) hx hb dX12_feed_33 (by decide) (fun _ => ?_) (fun c9 => absurd (by decide) c9)
  refine lv_iload hx hb dX12_feed_40 (lv_at hl 0 rfl) ?_
  refine lv_bipush (v := 8) hx hb dX12_feed_42 (by decide) ?_
  refine lv_icmp_ge (tgt := 51) hx hb dX12_feed_44 (by decide) (fun _ => ?_) (fun c9 => absurd (by decide) c9)
  refine lv_iload hx hb dX12_feed_51 (lv_at hl 0 rfl) ?_
  refine lv_bipush (v := 12) hx hb dX12_feed_53 (by decide) ?_
  refine lv_icmp_ge (tgt := 62) hx hb dX12_feed_55 (by decide) (fun _ => ?_) (fun c9 => absurd (by decide) c9)
  refine lv_iload hx hb dX12_feed_62 (lv_at hl 0 rfl) ?_
  refine lv_bipush (v := 16) hx hb dX12_feed_64 (by decide) ?_
  refine lv_icmp_ge (tgt := 74) hx hb dX12_feed_66 (by decide) (fun c9 => absurd c9 (by decide)) (fun _ => ?_)
  refine lv_iload hx hb dX12_feed_69 (lv_at hl 6 rfl) ?_
  refine lv_goto (tgt := 76) hx hb dX12_feed_71 (by decide) ?_
  refine lv_istore (lv' := [(7, .int p3), (6, .int 12), (0, .ref q0), (1, .int p0), (2, .int p1), (3, .int p2), (4, .int p3), (5, .int p4)]) hx hb dX12_feed_76 hl (by decide) rfl (fun ls hl => ?_)
  refine lv_aload_n hx hb dX12_feed_78 rfl (lv_at hl 2 rfl) ?_
  refine va_get (D := (dC, dI)) (ci := 12) (v := .ref q2) (C := RX12) (T := TX12) (N := 81) hx hb hts (fun w h => mc (in_X12 w h)) hown hK hP 0 rfl rfl 2 (by decide) (hts _ (mc m_203)) (fun _ h9 => h9) rfl dX12_feed_79 ?_
  refine lv_aload_n hx hb dX12_feed_82 rfl (lv_at hl 2 rfl) ?_
  refine va_get (D := (dC, dI)) (ci := 12) (v := .int (nI (n0 + 12))) (C := RX12) (T := TX12) (N := 81) hx hb hts (fun w h => mc (in_X12 w h)) hown hK hP 0 rfl rfl 5 (by decide) (hts _ (mc m_257)) (fun _ h9 => h9) rfl dX12_feed_83 ?_
  refine lv_iload hx hb dX12_feed_86 (lv_at hl 0 rfl) ?_
  refine lv_bipush (v := 24) hx hb dX12_feed_88 (by decide) ?_
  refine lv_bipush (v := 8) hx hb dX12_feed_90 (by decide) ?_
  refine lv_iload hx hb dX12_feed_92 (lv_at hl 1 rfl) ?_
  refine lv_iconst (v := 4) hx hb dX12_feed_94 (by decide) ?_
  refine lv_irem hx hb dX12_feed_95 (by decide) ?_
  refine q_topi 0 (by decide) ?_
  refine lv_imul hx hb dX12_feed_96 ?_
  refine q_topi 0 (by decide) ?_
  refine lv_isub hx hb dX12_feed_97 ?_
  refine q_topi 24 (by decide) ?_
  refine lv_ishr hx hb dX12_feed_98 ?_
  refine lv_topi (fun x137 ex137 => ?_)
  refine lv_sipush (v := 255) hx hb dX12_feed_99 (by decide) ?_
  refine lv_iand hx hb dX12_feed_102 ?_
  refine lv_topi (fun x138 ex138 => ?_)
  refine va_iast hx hb hK hP hD hS 1 0 rfl rfl (vp_in_nI (by omega) (by decide)) dX12_feed_103 (fun H locs hP hD hS => ?_)
  have hP : va_P (dC, dI) classes [(q0, .inr (12, [.ref q1, .int 0, .ref q2, .ref q3, .ref q4, .int (nI (n0 + 12)), .int x1, .int x2, .int x3, .int x4, .int x5, .int x6, .int x7, .int x8, .int x9, .int x10, .int x11, .int x12, .int x13, .int x14, .int x15, .ref q5, .ref q6, .ref q7, .ref q8, .ref q9, .ref q10, .ref q11, .ref q12, .int x16, .ref q13, .ref q14, .ref q15, .ref q16, .int x17, .ref q17, .ref q18, .ref q19, .ref q20, .ref q21, .ref q22, .ref q23, .ref q24, .ref q25, .ref q26, .ref q27, .ref q28, .int x18, .ref q29, .ref q30, .int x19, .ref q31, .ref q32, .ref q33, .ref q34, .ref q35, .int x20, .int x21, .int x22, .int x23, .int x24, .int x25, .int x26, .int x27, .int x28, .int x29, .int x30, .int x31, .int x32, .int x33, .ref q36, .ref q37, .ref q38, .ref q39, .ref q40, .int x34, .int x35, .ref q41, .ref q42, .int x36, .ref q43])), (q2, .inl (k0, 3000, .inl (upd f136 (Int32.toNatClampNeg (nI (n0 + 12))) x138)))] H := hP
  have hD : va_D A [(q0, .inr (12, [.ref q1, .int 0, .ref q2, .ref q3, .ref q4, .int (nI (n0 + 12)), .int x1, .int x2, .int x3, .int x4, .int x5, .int x6, .int x7, .int x8, .int x9, .int x10, .int x11, .int x12, .int x13, .int x14, .int x15, .ref q5, .ref q6, .ref q7, .ref q8, .ref q9, .ref q10, .ref q11, .ref q12, .int x16, .ref q13, .ref q14, .ref q15, .ref q16, .int x17, .ref q17, .ref q18, .ref q19, .ref q20, .ref q21, .ref q22, .ref q23, .ref q24, .ref q25, .ref q26, .ref q27, .ref q28, .int x18, .ref q29, .ref q30, .int x19, .ref q31, .ref q32, .ref q33, .ref q34, .ref q35, .int x20, .int x21, .int x22, .int x23, .int x24, .int x25, .int x26, .int x27, .int x28, .int x29, .int x30, .int x31, .int x32, .int x33, .ref q36, .ref q37, .ref q38, .ref q39, .ref q40, .int x34, .int x35, .ref q41, .ref q42, .int x36, .ref q43])), (q2, .inl (k0, 3000, .inl (upd f136 (Int32.toNatClampNeg (nI (n0 + 12))) x138)))] := hD
  obtain ⟨f139, ef139⟩ : ∃ z : Nat → Int32, z = (upd f136 (Int32.toNatClampNeg (nI (n0 + 12))) x138) := ⟨_, rfl⟩
  rw [← ef139] at hP hD
  have hP : va_P (dC, dI) classes [(q0, .inr (12, [.ref q1, .int 0, .ref q2, .ref q3, .ref q4, .int (nI (n0 + 12)), .int x1, .int x2, .int x3, .int x4, .int x5, .int x6, .int x7, .int x8, .int x9, .int x10, .int x11, .int x12, .int x13, .int x14, .int x15, .ref q5, .ref q6, .ref q7, .ref q8, .ref q9, .ref q10, .ref q11, .ref q12, .int x16, .ref q13, .ref q14, .ref q15, .ref q16, .int x17, .ref q17, .ref q18, .ref q19, .ref q20, .ref q21, .ref q22, .ref q23, .ref q24, .ref q25, .ref q26, .ref q27, .ref q28, .int x18, .ref q29, .ref q30, .int x19, .ref q31, .ref q32, .ref q33, .ref q34, .ref q35, .int x20, .int x21, .int x22, .int x23, .int x24, .int x25, .int x26, .int x27, .int x28, .int x29, .int x30, .int x31, .int x32, .int x33, .ref q36, .ref q37, .ref q38, .ref q39, .ref q40, .int x34, .int x35, .ref q41, .ref q42, .int x36, .ref q43])), (q2, .inl (k0, 3000, .inl f139))] H := hP
  have hD : va_D A [(q0, .inr (12, [.ref q1, .int 0, .ref q2, .ref q3, .ref q4, .int (nI (n0 + 12)), .int x1, .int x2, .int x3, .int x4, .int x5, .int x6, .int x7, .int x8, .int x9, .int x10, .int x11, .int x12, .int x13, .int x14, .int x15, .ref q5, .ref q6, .ref q7, .ref q8, .ref q9, .ref q10, .ref q11, .ref q12, .int x16, .ref q13, .ref q14, .ref q15, .ref q16, .int x17, .ref q17, .ref q18, .ref q19, .ref q20, .ref q21, .ref q22, .ref q23, .ref q24, .ref q25, .ref q26, .ref q27, .ref q28, .int x18, .ref q29, .ref q30, .int x19, .ref q31, .ref q32, .ref q33, .ref q34, .ref q35, .int x20, .int x21, .int x22, .int x23, .int x24, .int x25, .int x26, .int x27, .int x28, .int x29, .int x30, .int x31, .int x32, .int x33, .ref q36, .ref q37, .ref q38, .ref q39, .ref q40, .int x34, .int x35, .ref q41, .ref q42, .int x36, .ref q43])), (q2, .inl (k0, 3000, .inl f139))] := hD
  refine lv_aload_n hx hb dX12_feed_104 rfl (lv_at hl 2 rfl) ?_
  refine lv_dup hx hb dX12_feed_105 rfl ?_
  refine va_get (D := (dC, dI)) (ci := 12) (v := .int (nI (n0 + 12))) (C := RX12) (T := TX12) (N := 81) hx hb hts (fun w h => mc (in_X12 w h)) hown hK hP 0 rfl rfl 5 (by decide) (hts _ (mc m_257)) (fun _ h9 => h9) rfl dX12_feed_106 ?_
  refine lv_iconst (v := 1) hx hb dX12_feed_109 (by decide) ?_
  refine lv_iadd hx hb dX12_feed_110 ?_
  refine q_topi (nI (n0 + 13)) (nI_add _ 1) ?_
  refine va_put (D := (dC, dI)) (ci := 12) (v := .int (nI (n0 + 13))) (ty := .int) (C := RX12) (T := TX12) (N := 81) hx hb hts (fun w h => mc (in_X12 w h)) tyX12 tyX12_ok nmX12 hown hK hP hD hS 0 rfl rfl 5 (by decide) (hts _ (mc m_257)) (fun _ h9 => h9) rfl (by decide +kernel) (by first | rfl | decide) (by first | rfl | decide) (Nat.le_of_ble_eq_true rfl) dX12_feed_111 (fun H locs hP hD hS => ?_)
  have hP : va_P (dC, dI) classes [(q0, .inr (12, [.ref q1, .int 0, .ref q2, .ref q3, .ref q4, .int (nI (n0 + 13)), .int x1, .int x2, .int x3, .int x4, .int x5, .int x6, .int x7, .int x8, .int x9, .int x10, .int x11, .int x12, .int x13, .int x14, .int x15, .ref q5, .ref q6, .ref q7, .ref q8, .ref q9, .ref q10, .ref q11, .ref q12, .int x16, .ref q13, .ref q14, .ref q15, .ref q16, .int x17, .ref q17, .ref q18, .ref q19, .ref q20, .ref q21, .ref q22, .ref q23, .ref q24, .ref q25, .ref q26, .ref q27, .ref q28, .int x18, .ref q29, .ref q30, .int x19, .ref q31, .ref q32, .ref q33, .ref q34, .ref q35, .int x20, .int x21, .int x22, .int x23, .int x24, .int x25, .int x26, .int x27, .int x28, .int x29, .int x30, .int x31, .int x32, .int x33, .ref q36, .ref q37, .ref q38, .ref q39, .ref q40, .int x34, .int x35, .ref q41, .ref q42, .int x36, .ref q43])), (q2, .inl (k0, 3000, .inl f139))] H := hP
  have hD : va_D A [(q0, .inr (12, [.ref q1, .int 0, .ref q2, .ref q3, .ref q4, .int (nI (n0 + 13)), .int x1, .int x2, .int x3, .int x4, .int x5, .int x6, .int x7, .int x8, .int x9, .int x10, .int x11, .int x12, .int x13, .int x14, .int x15, .ref q5, .ref q6, .ref q7, .ref q8, .ref q9, .ref q10, .ref q11, .ref q12, .int x16, .ref q13, .ref q14, .ref q15, .ref q16, .int x17, .ref q17, .ref q18, .ref q19, .ref q20, .ref q21, .ref q22, .ref q23, .ref q24, .ref q25, .ref q26, .ref q27, .ref q28, .int x18, .ref q29, .ref q30, .int x19, .ref q31, .ref q32, .ref q33, .ref q34, .ref q35, .int x20, .int x21, .int x22, .int x23, .int x24, .int x25, .int x26, .int x27, .int x28, .int x29, .int x30, .int x31, .int x32, .int x33, .ref q36, .ref q37, .ref q38, .ref q39, .ref q40, .int x34, .int x35, .ref q41, .ref q42, .int x36, .ref q43])), (q2, .inl (k0, 3000, .inl f139))] := hD
  refine lv_iinc (v := 13) (lv' := [(6, .int 13), (7, .int p3), (0, .ref q0), (1, .int p0), (2, .int p1), (3, .int p2), (4, .int p3), (5, .int p4)]) hx hb dX12_feed_114 hl (k := 1) rfl (by decide) (by decide) rfl (fun ls hl => ?_)
  refine lv_goto (tgt := 23) hx hb dX12_feed_117 (by decide) ?_
  refine lv_iload hx hb dX12_feed_23 (lv_at hl 0 rfl) ?_
  refine lv_bipush (v := 20) hx hb dX12_feed_25 (by decide) ?_
  refine lv_icmp_ge (tgt := 120) hx hb dX12_feed_27 (by decide) (fun c9 => absurd c9 (by decide)) (fun _ => ?_)
  refine lv_iload hx hb dX12_feed_30 (lv_at hl 0 rfl) ?_
  refine lv_iconst (v := 4) hx hb dX12_feed_32 (by decide) ?_
  refine lv_icmp_ge (tgt := 40) hx hb dX12_feed_33 (by decide) (fun _ => ?_) (fun c9 => absurd (by decide) c9)
  refine lv_iload hx hb dX12_feed_40 (lv_at hl 0 rfl) ?_
  refine lv_bipush (v := 8) hx hb dX12_feed_42 (by decide) ?_
  refine lv_icmp_ge (tgt := 51) hx hb dX12_feed_44 (by decide) (fun _ => ?_) (fun c9 => absurd (by decide) c9)
  refine lv_iload hx hb dX12_feed_51 (lv_at hl 0 rfl) ?_
  refine lv_bipush (v := 12) hx hb dX12_feed_53 (by decide) ?_
  refine lv_icmp_ge (tgt := 62) hx hb dX12_feed_55 (by decide) (fun _ => ?_) (fun c9 => absurd (by decide) c9)
  refine lv_iload hx hb dX12_feed_62 (lv_at hl 0 rfl) ?_
  refine lv_bipush (v := 16) hx hb dX12_feed_64 (by decide) ?_
  refine lv_icmp_ge (tgt := 74) hx hb dX12_feed_66 (by decide) (fun c9 => absurd c9 (by decide)) (fun _ => ?_)
  refine lv_iload hx hb dX12_feed_69 (lv_at hl 6 rfl) ?_
  refine lv_goto (tgt := 76) hx hb dX12_feed_71 (by decide) ?_
  refine lv_istore (lv' := [(7, .int p3), (6, .int 13), (0, .ref q0), (1, .int p0), (2, .int p1), (3, .int p2), (4, .int p3), (5, .int p4)]) hx hb dX12_feed_76 hl (by decide) rfl (fun ls hl => ?_)
  refine lv_aload_n hx hb dX12_feed_78 rfl (lv_at hl 2 rfl) ?_
  refine va_get (D := (dC, dI)) (ci := 12) (v := .ref q2) (C := RX12) (T := TX12) (N := 81) hx hb hts (fun w h => mc (in_X12 w h)) hown hK hP 0 rfl rfl 2 (by decide) (hts _ (mc m_203)) (fun _ h9 => h9) rfl dX12_feed_79 ?_
  refine lv_aload_n hx hb dX12_feed_82 rfl (lv_at hl 2 rfl) ?_
  refine va_get (D := (dC, dI)) (ci := 12) (v := .int (nI (n0 + 13))) (C := RX12) (T := TX12) (N := 81) hx hb hts (fun w h => mc (in_X12 w h)) hown hK hP 0 rfl rfl 5 (by decide) (hts _ (mc m_257)) (fun _ h9 => h9) rfl dX12_feed_83 ?_
  refine lv_iload hx hb dX12_feed_86 (lv_at hl 0 rfl) ?_
  refine lv_bipush (v := 24) hx hb dX12_feed_88 (by decide) ?_
  refine lv_bipush (v := 8) hx hb dX12_feed_90 (by decide) ?_
  refine lv_iload hx hb dX12_feed_92 (lv_at hl 1 rfl) ?_
  refine lv_iconst (v := 4) hx hb dX12_feed_94 (by decide) ?_
  refine lv_irem hx hb dX12_feed_95 (by decide) ?_
  refine q_topi 1 (by decide) ?_
  refine lv_imul hx hb dX12_feed_96 ?_
  refine q_topi 8 (by decide) ?_
  refine lv_isub hx hb dX12_feed_97 ?_
  refine q_topi 16 (by decide) ?_
  refine lv_ishr hx hb dX12_feed_98 ?_
  refine lv_topi (fun x140 ex140 => ?_)
  refine lv_sipush (v := 255) hx hb dX12_feed_99 (by decide) ?_
  refine lv_iand hx hb dX12_feed_102 ?_
  refine lv_topi (fun x141 ex141 => ?_)
  refine va_iast hx hb hK hP hD hS 1 0 rfl rfl (vp_in_nI (by omega) (by decide)) dX12_feed_103 (fun H locs hP hD hS => ?_)
  have hP : va_P (dC, dI) classes [(q0, .inr (12, [.ref q1, .int 0, .ref q2, .ref q3, .ref q4, .int (nI (n0 + 13)), .int x1, .int x2, .int x3, .int x4, .int x5, .int x6, .int x7, .int x8, .int x9, .int x10, .int x11, .int x12, .int x13, .int x14, .int x15, .ref q5, .ref q6, .ref q7, .ref q8, .ref q9, .ref q10, .ref q11, .ref q12, .int x16, .ref q13, .ref q14, .ref q15, .ref q16, .int x17, .ref q17, .ref q18, .ref q19, .ref q20, .ref q21, .ref q22, .ref q23, .ref q24, .ref q25, .ref q26, .ref q27, .ref q28, .int x18, .ref q29, .ref q30, .int x19, .ref q31, .ref q32, .ref q33, .ref q34, .ref q35, .int x20, .int x21, .int x22, .int x23, .int x24, .int x25, .int x26, .int x27, .int x28, .int x29, .int x30, .int x31, .int x32, .int x33, .ref q36, .ref q37, .ref q38, .ref q39, .ref q40, .int x34, .int x35, .ref q41, .ref q42, .int x36, .ref q43])), (q2, .inl (k0, 3000, .inl (upd f139 (Int32.toNatClampNeg (nI (n0 + 13))) x141)))] H := hP
  have hD : va_D A [(q0, .inr (12, [.ref q1, .int 0, .ref q2, .ref q3, .ref q4, .int (nI (n0 + 13)), .int x1, .int x2, .int x3, .int x4, .int x5, .int x6, .int x7, .int x8, .int x9, .int x10, .int x11, .int x12, .int x13, .int x14, .int x15, .ref q5, .ref q6, .ref q7, .ref q8, .ref q9, .ref q10, .ref q11, .ref q12, .int x16, .ref q13, .ref q14, .ref q15, .ref q16, .int x17, .ref q17, .ref q18, .ref q19, .ref q20, .ref q21, .ref q22, .ref q23, .ref q24, .ref q25, .ref q26, .ref q27, .ref q28, .int x18, .ref q29, .ref q30, .int x19, .ref q31, .ref q32, .ref q33, .ref q34, .ref q35, .int x20, .int x21, .int x22, .int x23, .int x24, .int x25, .int x26, .int x27, .int x28, .int x29, .int x30, .int x31, .int x32, .int x33, .ref q36, .ref q37, .ref q38, .ref q39, .ref q40, .int x34, .int x35, .ref q41, .ref q42, .int x36, .ref q43])), (q2, .inl (k0, 3000, .inl (upd f139 (Int32.toNatClampNeg (nI (n0 + 13))) x141)))] := hD
  obtain ⟨f142, ef142⟩ : ∃ z : Nat → Int32, z = (upd f139 (Int32.toNatClampNeg (nI (n0 + 13))) x141) := ⟨_, rfl⟩
  rw [← ef142] at hP hD
  have hP : va_P (dC, dI) classes [(q0, .inr (12, [.ref q1, .int 0, .ref q2, .ref q3, .ref q4, .int (nI (n0 + 13)), .int x1, .int x2, .int x3, .int x4, .int x5, .int x6, .int x7, .int x8, .int x9, .int x10, .int x11, .int x12, .int x13, .int x14, .int x15, .ref q5, .ref q6, .ref q7, .ref q8, .ref q9, .ref q10, .ref q11, .ref q12, .int x16, .ref q13, .ref q14, .ref q15, .ref q16, .int x17, .ref q17, .ref q18, .ref q19, .ref q20, .ref q21, .ref q22, .ref q23, .ref q24, .ref q25, .ref q26, .ref q27, .ref q28, .int x18, .ref q29, .ref q30, .int x19, .ref q31, .ref q32, .ref q33, .ref q34, .ref q35, .int x20, .int x21, .int x22, .int x23, .int x24, .int x25, .int x26, .int x27, .int x28, .int x29, .int x30, .int x31, .int x32, .int x33, .ref q36, .ref q37, .ref q38, .ref q39, .ref q40, .int x34, .int x35, .ref q41, .ref q42, .int x36, .ref q43])), (q2, .inl (k0, 3000, .inl f142))] H := hP
  have hD : va_D A [(q0, .inr (12, [.ref q1, .int 0, .ref q2, .ref q3, .ref q4, .int (nI (n0 + 13)), .int x1, .int x2, .int x3, .int x4, .int x5, .int x6, .int x7, .int x8, .int x9, .int x10, .int x11, .int x12, .int x13, .int x14, .int x15, .ref q5, .ref q6, .ref q7, .ref q8, .ref q9, .ref q10, .ref q11, .ref q12, .int x16, .ref q13, .ref q14, .ref q15, .ref q16, .int x17, .ref q17, .ref q18, .ref q19, .ref q20, .ref q21, .ref q22, .ref q23, .ref q24, .ref q25, .ref q26, .ref q27, .ref q28, .int x18, .ref q29, .ref q30, .int x19, .ref q31, .ref q32, .ref q33, .ref q34, .ref q35, .int x20, .int x21, .int x22, .int x23, .int x24, .int x25, .int x26, .int x27, .int x28, .int x29, .int x30, .int x31, .int x32, .int x33, .ref q36, .ref q37, .ref q38, .ref q39, .ref q40, .int x34, .int x35, .ref q41, .ref q42, .int x36, .ref q43])), (q2, .inl (k0, 3000, .inl f142))] := hD
  refine lv_aload_n hx hb dX12_feed_104 rfl (lv_at hl 2 rfl) ?_
  refine lv_dup hx hb dX12_feed_105 rfl ?_
  refine va_get (D := (dC, dI)) (ci := 12) (v := .int (nI (n0 + 13))) (C := RX12) (T := TX12) (N := 81) hx hb hts (fun w h => mc (in_X12 w h)) hown hK hP 0 rfl rfl 5 (by decide) (hts _ (mc m_257)) (fun _ h9 => h9) rfl dX12_feed_106 ?_
  refine lv_iconst (v := 1) hx hb dX12_feed_109 (by decide) ?_
  refine lv_iadd hx hb dX12_feed_110 ?_
  refine q_topi (nI (n0 + 14)) (nI_add _ 1) ?_
  refine va_put (D := (dC, dI)) (ci := 12) (v := .int (nI (n0 + 14))) (ty := .int) (C := RX12) (T := TX12) (N := 81) hx hb hts (fun w h => mc (in_X12 w h)) tyX12 tyX12_ok nmX12 hown hK hP hD hS 0 rfl rfl 5 (by decide) (hts _ (mc m_257)) (fun _ h9 => h9) rfl (by decide +kernel) (by first | rfl | decide) (by first | rfl | decide) (Nat.le_of_ble_eq_true rfl) dX12_feed_111 (fun H locs hP hD hS => ?_)
  have hP : va_P (dC, dI) classes [(q0, .inr (12, [.ref q1, .int 0, .ref q2, .ref q3, .ref q4, .int (nI (n0 + 14)), .int x1, .int x2, .int x3, .int x4, .int x5, .int x6, .int x7, .int x8, .int x9, .int x10, .int x11, .int x12, .int x13, .int x14, .int x15, .ref q5, .ref q6, .ref q7, .ref q8, .ref q9, .ref q10, .ref q11, .ref q12, .int x16, .ref q13, .ref q14, .ref q15, .ref q16, .int x17, .ref q17, .ref q18, .ref q19, .ref q20, .ref q21, .ref q22, .ref q23, .ref q24, .ref q25, .ref q26, .ref q27, .ref q28, .int x18, .ref q29, .ref q30, .int x19, .ref q31, .ref q32, .ref q33, .ref q34, .ref q35, .int x20, .int x21, .int x22, .int x23, .int x24, .int x25, .int x26, .int x27, .int x28, .int x29, .int x30, .int x31, .int x32, .int x33, .ref q36, .ref q37, .ref q38, .ref q39, .ref q40, .int x34, .int x35, .ref q41, .ref q42, .int x36, .ref q43])), (q2, .inl (k0, 3000, .inl f142))] H := hP
  have hD : va_D A [(q0, .inr (12, [.ref q1, .int 0, .ref q2, .ref q3, .ref q4, .int (nI (n0 + 14)), .int x1, .int x2, .int x3, .int x4, .int x5, .int x6, .int x7, .int x8, .int x9, .int x10, .int x11, .int x12, .int x13, .int x14, .int x15, .ref q5, .ref q6, .ref q7, .ref q8, .ref q9, .ref q10, .ref q11, .ref q12, .int x16, .ref q13, .ref q14, .ref q15, .ref q16, .int x17, .ref q17, .ref q18, .ref q19, .ref q20, .ref q21, .ref q22, .ref q23, .ref q24, .ref q25, .ref q26, .ref q27, .ref q28, .int x18, .ref q29, .ref q30, .int x19, .ref q31, .ref q32, .ref q33, .ref q34, .ref q35, .int x20, .int x21, .int x22, .int x23, .int x24, .int x25, .int x26, .int x27, .int x28, .int x29, .int x30, .int x31, .int x32, .int x33, .ref q36, .ref q37, .ref q38, .ref q39, .ref q40, .int x34, .int x35, .ref q41, .ref q42, .int x36, .ref q43])), (q2, .inl (k0, 3000, .inl f142))] := hD
  refine lv_iinc (v := 14) (lv' := [(6, .int 14), (7, .int p3), (0, .ref q0), (1, .int p0), (2, .int p1), (3, .int p2), (4, .int p3), (5, .int p4)]) hx hb dX12_feed_114 hl (k := 1) rfl (by decide) (by decide) rfl (fun ls hl => ?_)
  refine lv_goto (tgt := 23) hx hb dX12_feed_117 (by decide) ?_
  refine lv_iload hx hb dX12_feed_23 (lv_at hl 0 rfl) ?_
  refine lv_bipush (v := 20) hx hb dX12_feed_25 (by decide) ?_
  refine lv_icmp_ge (tgt := 120) hx hb dX12_feed_27 (by decide) (fun c9 => absurd c9 (by decide)) (fun _ => ?_)
  refine lv_iload hx hb dX12_feed_30 (lv_at hl 0 rfl) ?_
  refine lv_iconst (v := 4) hx hb dX12_feed_32 (by decide) ?_
  refine lv_icmp_ge (tgt := 40) hx hb dX12_feed_33 (by decide) (fun _ => ?_) (fun c9 => absurd (by decide) c9)
  refine lv_iload hx hb dX12_feed_40 (lv_at hl 0 rfl) ?_
  refine lv_bipush (v := 8) hx hb dX12_feed_42 (by decide) ?_
  refine lv_icmp_ge (tgt := 51) hx hb dX12_feed_44 (by decide) (fun _ => ?_) (fun c9 => absurd (by decide) c9)
  refine lv_iload hx hb dX12_feed_51 (lv_at hl 0 rfl) ?_
  refine lv_bipush (v := 12) hx hb dX12_feed_53 (by decide) ?_
  refine lv_icmp_ge (tgt := 62) hx hb dX12_feed_55 (by decide) (fun _ => ?_) (fun c9 => absurd (by decide) c9)
  refine lv_iload hx hb dX12_feed_62 (lv_at hl 0 rfl) ?_
  refine lv_bipush (v := 16) hx hb dX12_feed_64 (by decide) ?_
  refine lv_icmp_ge (tgt := 74) hx hb dX12_feed_66 (by decide) (fun c9 => absurd c9 (by decide)) (fun _ => ?_)
  refine lv_iload hx hb dX12_feed_69 (lv_at hl 6 rfl) ?_
  refine lv_goto (tgt := 76) hx hb dX12_feed_71 (by decide) ?_
  refine lv_istore (lv' := [(7, .int p3), (6, .int 14), (0, .ref q0), (1, .int p0), (2, .int p1), (3, .int p2), (4, .int p3), (5, .int p4)]) hx hb dX12_feed_76 hl (by decide) rfl (fun ls hl => ?_)
  refine lv_aload_n hx hb dX12_feed_78 rfl (lv_at hl 2 rfl) ?_
  refine va_get (D := (dC, dI)) (ci := 12) (v := .ref q2) (C := RX12) (T := TX12) (N := 81) hx hb hts (fun w h => mc (in_X12 w h)) hown hK hP 0 rfl rfl 2 (by decide) (hts _ (mc m_203)) (fun _ h9 => h9) rfl dX12_feed_79 ?_
  refine lv_aload_n hx hb dX12_feed_82 rfl (lv_at hl 2 rfl) ?_
  refine va_get (D := (dC, dI)) (ci := 12) (v := .int (nI (n0 + 14))) (C := RX12) (T := TX12) (N := 81) hx hb hts (fun w h => mc (in_X12 w h)) hown hK hP 0 rfl rfl 5 (by decide) (hts _ (mc m_257)) (fun _ h9 => h9) rfl dX12_feed_83 ?_
  refine lv_iload hx hb dX12_feed_86 (lv_at hl 0 rfl) ?_
  refine lv_bipush (v := 24) hx hb dX12_feed_88 (by decide) ?_
  refine lv_bipush (v := 8) hx hb dX12_feed_90 (by decide) ?_
  refine lv_iload hx hb dX12_feed_92 (lv_at hl 1 rfl) ?_
  refine lv_iconst (v := 4) hx hb dX12_feed_94 (by decide) ?_
  refine lv_irem hx hb dX12_feed_95 (by decide) ?_
  refine q_topi 2 (by decide) ?_
  refine lv_imul hx hb dX12_feed_96 ?_
  refine q_topi 16 (by decide) ?_
  refine lv_isub hx hb dX12_feed_97 ?_
  refine q_topi 8 (by decide) ?_
  refine lv_ishr hx hb dX12_feed_98 ?_
  refine lv_topi (fun x143 ex143 => ?_)
  refine lv_sipush (v := 255) hx hb dX12_feed_99 (by decide) ?_
  refine lv_iand hx hb dX12_feed_102 ?_
  refine lv_topi (fun x144 ex144 => ?_)
  refine va_iast hx hb hK hP hD hS 1 0 rfl rfl (vp_in_nI (by omega) (by decide)) dX12_feed_103 (fun H locs hP hD hS => ?_)
  have hP : va_P (dC, dI) classes [(q0, .inr (12, [.ref q1, .int 0, .ref q2, .ref q3, .ref q4, .int (nI (n0 + 14)), .int x1, .int x2, .int x3, .int x4, .int x5, .int x6, .int x7, .int x8, .int x9, .int x10, .int x11, .int x12, .int x13, .int x14, .int x15, .ref q5, .ref q6, .ref q7, .ref q8, .ref q9, .ref q10, .ref q11, .ref q12, .int x16, .ref q13, .ref q14, .ref q15, .ref q16, .int x17, .ref q17, .ref q18, .ref q19, .ref q20, .ref q21, .ref q22, .ref q23, .ref q24, .ref q25, .ref q26, .ref q27, .ref q28, .int x18, .ref q29, .ref q30, .int x19, .ref q31, .ref q32, .ref q33, .ref q34, .ref q35, .int x20, .int x21, .int x22, .int x23, .int x24, .int x25, .int x26, .int x27, .int x28, .int x29, .int x30, .int x31, .int x32, .int x33, .ref q36, .ref q37, .ref q38, .ref q39, .ref q40, .int x34, .int x35, .ref q41, .ref q42, .int x36, .ref q43])), (q2, .inl (k0, 3000, .inl (upd f142 (Int32.toNatClampNeg (nI (n0 + 14))) x144)))] H := hP
  have hD : va_D A [(q0, .inr (12, [.ref q1, .int 0, .ref q2, .ref q3, .ref q4, .int (nI (n0 + 14)), .int x1, .int x2, .int x3, .int x4, .int x5, .int x6, .int x7, .int x8, .int x9, .int x10, .int x11, .int x12, .int x13, .int x14, .int x15, .ref q5, .ref q6, .ref q7, .ref q8, .ref q9, .ref q10, .ref q11, .ref q12, .int x16, .ref q13, .ref q14, .ref q15, .ref q16, .int x17, .ref q17, .ref q18, .ref q19, .ref q20, .ref q21, .ref q22, .ref q23, .ref q24, .ref q25, .ref q26, .ref q27, .ref q28, .int x18, .ref q29, .ref q30, .int x19, .ref q31, .ref q32, .ref q33, .ref q34, .ref q35, .int x20, .int x21, .int x22, .int x23, .int x24, .int x25, .int x26, .int x27, .int x28, .int x29, .int x30, .int x31, .int x32, .int x33, .ref q36, .ref q37, .ref q38, .ref q39, .ref q40, .int x34, .int x35, .ref q41, .ref q42, .int x36, .ref q43])), (q2, .inl (k0, 3000, .inl (upd f142 (Int32.toNatClampNeg (nI (n0 + 14))) x144)))] := hD
  obtain ⟨f145, ef145⟩ : ∃ z : Nat → Int32, z = (upd f142 (Int32.toNatClampNeg (nI (n0 + 14))) x144) := ⟨_, rfl⟩
  rw [← ef145] at hP hD
  have hP : va_P (dC, dI) classes [(q0, .inr (12, [.ref q1, .int 0, .ref q2, .ref q3, .ref q4, .int (nI (n0 + 14)), .int x1, .int x2, .int x3, .int x4, .int x5, .int x6, .int x7, .int x8, .int x9, .int x10, .int x11, .int x12, .int x13, .int x14, .int x15, .ref q5, .ref q6, .ref q7, .ref q8, .ref q9, .ref q10, .ref q11, .ref q12, .int x16, .ref q13, .ref q14, .ref q15, .ref q16, .int x17, .ref q17, .ref q18, .ref q19, .ref q20, .ref q21, .ref q22, .ref q23, .ref q24, .ref q25, .ref q26, .ref q27, .ref q28, .int x18, .ref q29, .ref q30, .int x19, .ref q31, .ref q32, .ref q33, .ref q34, .ref q35, .int x20, .int x21, .int x22, .int x23, .int x24, .int x25, .int x26, .int x27, .int x28, .int x29, .int x30, .int x31, .int x32, .int x33, .ref q36, .ref q37, .ref q38, .ref q39, .ref q40, .int x34, .int x35, .ref q41, .ref q42, .int x36, .ref q43])), (q2, .inl (k0, 3000, .inl f145))] H := hP
  have hD : va_D A [(q0, .inr (12, [.ref q1, .int 0, .ref q2, .ref q3, .ref q4, .int (nI (n0 + 14)), .int x1, .int x2, .int x3, .int x4, .int x5, .int x6, .int x7, .int x8, .int x9, .int x10, .int x11, .int x12, .int x13, .int x14, .int x15, .ref q5, .ref q6, .ref q7, .ref q8, .ref q9, .ref q10, .ref q11, .ref q12, .int x16, .ref q13, .ref q14, .ref q15, .ref q16, .int x17, .ref q17, .ref q18, .ref q19, .ref q20, .ref q21, .ref q22, .ref q23, .ref q24, .ref q25, .ref q26, .ref q27, .ref q28, .int x18, .ref q29, .ref q30, .int x19, .ref q31, .ref q32, .ref q33, .ref q34, .ref q35, .int x20, .int x21, .int x22, .int x23, .int x24, .int x25, .int x26, .int x27, .int x28, .int x29, .int x30, .int x31, .int x32, .int x33, .ref q36, .ref q37, .ref q38, .ref q39, .ref q40, .int x34, .int x35, .ref q41, .ref q42, .int x36, .ref q43])), (q2, .inl (k0, 3000, .inl f145))] := hD
  refine lv_aload_n hx hb dX12_feed_104 rfl (lv_at hl 2 rfl) ?_
  refine lv_dup hx hb dX12_feed_105 rfl ?_
  refine va_get (D := (dC, dI)) (ci := 12) (v := .int (nI (n0 + 14))) (C := RX12) (T := TX12) (N := 81) hx hb hts (fun w h => mc (in_X12 w h)) hown hK hP 0 rfl rfl 5 (by decide) (hts _ (mc m_257)) (fun _ h9 => h9) rfl dX12_feed_106 ?_
  refine lv_iconst (v := 1) hx hb dX12_feed_109 (by decide) ?_
  refine lv_iadd hx hb dX12_feed_110 ?_
  refine q_topi (nI (n0 + 15)) (nI_add _ 1) ?_
  refine va_put (D := (dC, dI)) (ci := 12) (v := .int (nI (n0 + 15))) (ty := .int) (C := RX12) (T := TX12) (N := 81) hx hb hts (fun w h => mc (in_X12 w h)) tyX12 tyX12_ok nmX12 hown hK hP hD hS 0 rfl rfl 5 (by decide) (hts _ (mc m_257)) (fun _ h9 => h9) rfl (by decide +kernel) (by first | rfl | decide) (by first | rfl | decide) (Nat.le_of_ble_eq_true rfl) dX12_feed_111 (fun H locs hP hD hS => ?_)
  have hP : va_P (dC, dI) classes [(q0, .inr (12, [.ref q1, .int 0, .ref q2, .ref q3, .ref q4, .int (nI (n0 + 15)), .int x1, .int x2, .int x3, .int x4, .int x5, .int x6, .int x7, .int x8, .int x9, .int x10, .int x11, .int x12, .int x13, .int x14, .int x15, .ref q5, .ref q6, .ref q7, .ref q8, .ref q9, .ref q10, .ref q11, .ref q12, .int x16, .ref q13, .ref q14, .ref q15, .ref q16, .int x17, .ref q17, .ref q18, .ref q19, .ref q20, .ref q21, .ref q22, .ref q23, .ref q24, .ref q25, .ref q26, .ref q27, .ref q28, .int x18, .ref q29, .ref q30, .int x19, .ref q31, .ref q32, .ref q33, .ref q34, .ref q35, .int x20, .int x21, .int x22, .int x23, .int x24, .int x25, .int x26, .int x27, .int x28, .int x29, .int x30, .int x31, .int x32, .int x33, .ref q36, .ref q37, .ref q38, .ref q39, .ref q40, .int x34, .int x35, .ref q41, .ref q42, .int x36, .ref q43])), (q2, .inl (k0, 3000, .inl f145))] H := hP
  have hD : va_D A [(q0, .inr (12, [.ref q1, .int 0, .ref q2, .ref q3, .ref q4, .int (nI (n0 + 15)), .int x1, .int x2, .int x3, .int x4, .int x5, .int x6, .int x7, .int x8, .int x9, .int x10, .int x11, .int x12, .int x13, .int x14, .int x15, .ref q5, .ref q6, .ref q7, .ref q8, .ref q9, .ref q10, .ref q11, .ref q12, .int x16, .ref q13, .ref q14, .ref q15, .ref q16, .int x17, .ref q17, .ref q18, .ref q19, .ref q20, .ref q21, .ref q22, .ref q23, .ref q24, .ref q25, .ref q26, .ref q27, .ref q28, .int x18, .ref q29, .ref q30, .int x19, .ref q31, .ref q32, .ref q33, .ref q34, .ref q35, .int x20, .int x21, .int x22, .int x23, .int x24, .int x25, .int x26, .int x27, .int x28, .int x29, .int x30, .int x31, .int x32, .int x33, .ref q36, .ref q37, .ref q38, .ref q39, .ref q40, .int x34, .int x35, .ref q41, .ref q42, .int x36, .ref q43])), (q2, .inl (k0, 3000, .inl f145))] := hD
  refine lv_iinc (v := 15) (lv' := [(6, .int 15), (7, .int p3), (0, .ref q0), (1, .int p0), (2, .int p1), (3, .int p2), (4, .int p3), (5, .int p4)]) hx hb dX12_feed_114 hl (k := 1) rfl (by decide) (by decide) rfl (fun ls hl => ?_)
  refine lv_goto (tgt := 23) hx hb dX12_feed_117 (by decide) ?_
  refine lv_iload hx hb dX12_feed_23 (lv_at hl 0 rfl) ?_
  refine lv_bipush (v := 20) hx hb dX12_feed_25 (by decide) ?_
  refine lv_icmp_ge (tgt := 120) hx hb dX12_feed_27 (by decide) (fun c9 => absurd c9 (by decide)) (fun _ => ?_)
  refine lv_iload hx hb dX12_feed_30 (lv_at hl 0 rfl) ?_
  refine lv_iconst (v := 4) hx hb dX12_feed_32 (by decide) ?_
  refine lv_icmp_ge (tgt := 40) hx hb dX12_feed_33 (by decide) (fun _ => ?_) (fun c9 => absurd (by decide) c9)
  refine lv_iload hx hb dX12_feed_40 (lv_at hl 0 rfl) ?_
  refine lv_bipush (v := 8) hx hb dX12_feed_42 (by decide) ?_
  refine lv_icmp_ge (tgt := 51) hx hb dX12_feed_44 (by decide) (fun _ => ?_) (fun c9 => absurd (by decide) c9)
  refine lv_iload hx hb dX12_feed_51 (lv_at hl 0 rfl) ?_
  refine lv_bipush (v := 12) hx hb dX12_feed_53 (by decide) ?_
  refine lv_icmp_ge (tgt := 62) hx hb dX12_feed_55 (by decide) (fun _ => ?_) (fun c9 => absurd (by decide) c9)
  refine lv_iload hx hb dX12_feed_62 (lv_at hl 0 rfl) ?_
  refine lv_bipush (v := 16) hx hb dX12_feed_64 (by decide) ?_
  refine lv_icmp_ge (tgt := 74) hx hb dX12_feed_66 (by decide) (fun c9 => absurd c9 (by decide)) (fun _ => ?_)
  refine lv_iload hx hb dX12_feed_69 (lv_at hl 6 rfl) ?_
  refine lv_goto (tgt := 76) hx hb dX12_feed_71 (by decide) ?_
  refine lv_istore (lv' := [(7, .int p3), (6, .int 15), (0, .ref q0), (1, .int p0), (2, .int p1), (3, .int p2), (4, .int p3), (5, .int p4)]) hx hb dX12_feed_76 hl (by decide) rfl (fun ls hl => ?_)
  refine lv_aload_n hx hb dX12_feed_78 rfl (lv_at hl 2 rfl) ?_
  refine va_get (D := (dC, dI)) (ci := 12) (v := .ref q2) (C := RX12) (T := TX12) (N := 81) hx hb hts (fun w h => mc (in_X12 w h)) hown hK hP 0 rfl rfl 2 (by decide) (hts _ (mc m_203)) (fun _ h9 => h9) rfl dX12_feed_79 ?_
  refine lv_aload_n hx hb dX12_feed_82 rfl (lv_at hl 2 rfl) ?_
  refine va_get (D := (dC, dI)) (ci := 12) (v := .int (nI (n0 + 15))) (C := RX12) (T := TX12) (N := 81) hx hb hts (fun w h => mc (in_X12 w h)) hown hK hP 0 rfl rfl 5 (by decide) (hts _ (mc m_257)) (fun _ h9 => h9) rfl dX12_feed_83 ?_
  refine lv_iload hx hb dX12_feed_86 (lv_at hl 0 rfl) ?_
  refine lv_bipush (v := 24) hx hb dX12_feed_88 (by decide) ?_
  refine lv_bipush (v := 8) hx hb dX12_feed_90 (by decide) ?_
  refine lv_iload hx hb dX12_feed_92 (lv_at hl 1 rfl) ?_
  refine lv_iconst (v := 4) hx hb dX12_feed_94 (by decide) ?_
  refine lv_irem hx hb dX12_feed_95 (by decide) ?_
  refine q_topi 3 (by decide) ?_
  refine lv_imul hx hb dX12_feed_96 ?_
  refine q_topi 24 (by decide) ?_
  refine lv_isub hx hb dX12_feed_97 ?_
  refine q_topi 0 (by decide) ?_
  refine lv_ishr hx hb dX12_feed_98 ?_
  refine lv_topi (fun x146 ex146 => ?_)
  refine lv_sipush (v := 255) hx hb dX12_feed_99 (by decide) ?_
  refine lv_iand hx hb dX12_feed_102 ?_
  refine lv_topi (fun x147 ex147 => ?_)
  refine va_iast hx hb hK hP hD hS 1 0 rfl rfl (vp_in_nI (by omega) (by decide)) dX12_feed_103 (fun H locs hP hD hS => ?_)
  have hP : va_P (dC, dI) classes [(q0, .inr (12, [.ref q1, .int 0, .ref q2, .ref q3, .ref q4, .int (nI (n0 + 15)), .int x1, .int x2, .int x3, .int x4, .int x5, .int x6, .int x7, .int x8, .int x9, .int x10, .int x11, .int x12, .int x13, .int x14, .int x15, .ref q5, .ref q6, .ref q7, .ref q8, .ref q9, .ref q10, .ref q11, .ref q12, .int x16, .ref q13, .ref q14, .ref q15, .ref q16, .int x17, .ref q17, .ref q18, .ref q19, .ref q20, .ref q21, .ref q22, .ref q23, .ref q24, .ref q25, .ref q26, .ref q27, .ref q28, .int x18, .ref q29, .ref q30, .int x19, .ref q31, .ref q32, .ref q33, .ref q34, .ref q35, .int x20, .int x21, .int x22, .int x23, .int x24, .int x25, .int x26, .int x27, .int x28, .int x29, .int x30, .int x31, .int x32, .int x33, .ref q36, .ref q37, .ref q38, .ref q39, .ref q40, .int x34, .int x35, .ref q41, .ref q42, .int x36, .ref q43])), (q2, .inl (k0, 3000, .inl (upd f145 (Int32.toNatClampNeg (nI (n0 + 15))) x147)))] H := hP
  have hD : va_D A [(q0, .inr (12, [.ref q1, .int 0, .ref q2, .ref q3, .ref q4, .int (nI (n0 + 15)), .int x1, .int x2, .int x3, .int x4, .int x5, .int x6, .int x7, .int x8, .int x9, .int x10, .int x11, .int x12, .int x13, .int x14, .int x15, .ref q5, .ref q6, .ref q7, .ref q8, .ref q9, .ref q10, .ref q11, .ref q12, .int x16, .ref q13, .ref q14, .ref q15, .ref q16, .int x17, .ref q17, .ref q18, .ref q19, .ref q20, .ref q21, .ref q22, .ref q23, .ref q24, .ref q25, .ref q26, .ref q27, .ref q28, .int x18, .ref q29, .ref q30, .int x19, .ref q31, .ref q32, .ref q33, .ref q34, .ref q35, .int x20, .int x21, .int x22, .int x23, .int x24, .int x25, .int x26, .int x27, .int x28, .int x29, .int x30, .int x31, .int x32, .int x33, .ref q36, .ref q37, .ref q38, .ref q39, .ref q40, .int x34, .int x35, .ref q41, .ref q42, .int x36, .ref q43])), (q2, .inl (k0, 3000, .inl (upd f145 (Int32.toNatClampNeg (nI (n0 + 15))) x147)))] := hD
  obtain ⟨f148, ef148⟩ : ∃ z : Nat → Int32, z = (upd f145 (Int32.toNatClampNeg (nI (n0 + 15))) x147) := ⟨_, rfl⟩
  rw [← ef148] at hP hD
  have hP : va_P (dC, dI) classes [(q0, .inr (12, [.ref q1, .int 0, .ref q2, .ref q3, .ref q4, .int (nI (n0 + 15)), .int x1, .int x2, .int x3, .int x4, .int x5, .int x6, .int x7, .int x8, .int x9, .int x10, .int x11, .int x12, .int x13, .int x14, .int x15, .ref q5, .ref q6, .ref q7, .ref q8, .ref q9, .ref q10, .ref q11, .ref q12, .int x16, .ref q13, .ref q14, .ref q15, .ref q16, .int x17, .ref q17, .ref q18, .ref q19, .ref q20, .ref q21, .ref q22, .ref q23, .ref q24, .ref q25, .ref q26, .ref q27, .ref q28, .int x18, .ref q29, .ref q30, .int x19, .ref q31, .ref q32, .ref q33, .ref q34, .ref q35, .int x20, .int x21, .int x22, .int x23, .int x24, .int x25, .int x26, .int x27, .int x28, .int x29, .int x30, .int x31, .int x32, .int x33, .ref q36, .ref q37, .ref q38, .ref q39, .ref q40, .int x34, .int x35, .ref q41, .ref q42, .int x36, .ref q43])), (q2, .inl (k0, 3000, .inl f148))] H := hP
  have hD : va_D A [(q0, .inr (12, [.ref q1, .int 0, .ref q2, .ref q3, .ref q4, .int (nI (n0 + 15)), .int x1, .int x2, .int x3, .int x4, .int x5, .int x6, .int x7, .int x8, .int x9, .int x10, .int x11, .int x12, .int x13, .int x14, .int x15, .ref q5, .ref q6, .ref q7, .ref q8, .ref q9, .ref q10, .ref q11, .ref q12, .int x16, .ref q13, .ref q14, .ref q15, .ref q16, .int x17, .ref q17, .ref q18, .ref q19, .ref q20, .ref q21, .ref q22, .ref q23, .ref q24, .ref q25, .ref q26, .ref q27, .ref q28, .int x18, .ref q29, .ref q30, .int x19, .ref q31, .ref q32, .ref q33, .ref q34, .ref q35, .int x20, .int x21, .int x22, .int x23, .int x24, .int x25, .int x26, .int x27, .int x28, .int x29, .int x30, .int x31, .int x32, .int x33, .ref q36, .ref q37, .ref q38, .ref q39, .ref q40, .int x34, .int x35, .ref q41, .ref q42, .int x36, .ref q43])), (q2, .inl (k0, 3000, .inl f148))] := hD
  refine lv_aload_n hx hb dX12_feed_104 rfl (lv_at hl 2 rfl) ?_
  refine lv_dup hx hb dX12_feed_105 rfl ?_
  refine va_get (D := (dC, dI)) (ci := 12) (v := .int (nI (n0 + 15))) (C := RX12) (T := TX12) (N := 81) hx hb hts (fun w h => mc (in_X12 w h)) hown hK hP 0 rfl rfl 5 (by decide) (hts _ (mc m_257)) (fun _ h9 => h9) rfl dX12_feed_106 ?_
  refine lv_iconst (v := 1) hx hb dX12_feed_109 (by decide) ?_
  refine lv_iadd hx hb dX12_feed_110 ?_
  refine q_topi (nI (n0 + 16)) (nI_add _ 1) ?_
  refine va_put (D := (dC, dI)) (ci := 12) (v := .int (nI (n0 + 16))) (ty := .int) (C := RX12) (T := TX12) (N := 81) hx hb hts (fun w h => mc (in_X12 w h)) tyX12 tyX12_ok nmX12 hown hK hP hD hS 0 rfl rfl 5 (by decide) (hts _ (mc m_257)) (fun _ h9 => h9) rfl (by decide +kernel) (by first | rfl | decide) (by first | rfl | decide) (Nat.le_of_ble_eq_true rfl) dX12_feed_111 (fun H locs hP hD hS => ?_)
  have hP : va_P (dC, dI) classes [(q0, .inr (12, [.ref q1, .int 0, .ref q2, .ref q3, .ref q4, .int (nI (n0 + 16)), .int x1, .int x2, .int x3, .int x4, .int x5, .int x6, .int x7, .int x8, .int x9, .int x10, .int x11, .int x12, .int x13, .int x14, .int x15, .ref q5, .ref q6, .ref q7, .ref q8, .ref q9, .ref q10, .ref q11, .ref q12, .int x16, .ref q13, .ref q14, .ref q15, .ref q16, .int x17, .ref q17, .ref q18, .ref q19, .ref q20, .ref q21, .ref q22, .ref q23, .ref q24, .ref q25, .ref q26, .ref q27, .ref q28, .int x18, .ref q29, .ref q30, .int x19, .ref q31, .ref q32, .ref q33, .ref q34, .ref q35, .int x20, .int x21, .int x22, .int x23, .int x24, .int x25, .int x26, .int x27, .int x28, .int x29, .int x30, .int x31, .int x32, .int x33, .ref q36, .ref q37, .ref q38, .ref q39, .ref q40, .int x34, .int x35, .ref q41, .ref q42, .int x36, .ref q43])), (q2, .inl (k0, 3000, .inl f148))] H := hP
  have hD : va_D A [(q0, .inr (12, [.ref q1, .int 0, .ref q2, .ref q3, .ref q4, .int (nI (n0 + 16)), .int x1, .int x2, .int x3, .int x4, .int x5, .int x6, .int x7, .int x8, .int x9, .int x10, .int x11, .int x12, .int x13, .int x14, .int x15, .ref q5, .ref q6, .ref q7, .ref q8, .ref q9, .ref q10, .ref q11, .ref q12, .int x16, .ref q13, .ref q14, .ref q15, .ref q16, .int x17, .ref q17, .ref q18, .ref q19, .ref q20, .ref q21, .ref q22, .ref q23, .ref q24, .ref q25, .ref q26, .ref q27, .ref q28, .int x18, .ref q29, .ref q30, .int x19, .ref q31, .ref q32, .ref q33, .ref q34, .ref q35, .int x20, .int x21, .int x22, .int x23, .int x24, .int x25, .int x26, .int x27, .int x28, .int x29, .int x30, .int x31, .int x32, .int x33, .ref q36, .ref q37, .ref q38, .ref q39, .ref q40, .int x34, .int x35, .ref q41, .ref q42, .int x36, .ref q43])), (q2, .inl (k0, 3000, .inl f148))] := hD
  refine lv_iinc (v := 16) (lv' := [(6, .int 16), (7, .int p3), (0, .ref q0), (1, .int p0), (2, .int p1), (3, .int p2), (4, .int p3), (5, .int p4)]) hx hb dX12_feed_114 hl (k := 1) rfl (by decide) (by decide) rfl (fun ls hl => ?_)
  refine lv_goto (tgt := 23) hx hb dX12_feed_117 (by decide) ?_
  refine lv_iload hx hb dX12_feed_23 (lv_at hl 0 rfl) ?_
  refine lv_bipush (v := 20) hx hb dX12_feed_25 (by decide) ?_
  refine lv_icmp_ge (tgt := 120) hx hb dX12_feed_27 (by decide) (fun c9 => absurd c9 (by decide)) (fun _ => ?_)
  refine lv_iload hx hb dX12_feed_30 (lv_at hl 0 rfl) ?_
  refine lv_iconst (v := 4) hx hb dX12_feed_32 (by decide) ?_
  refine lv_icmp_ge (tgt := 40) hx hb dX12_feed_33 (by decide) (fun _ => ?_) (fun c9 => absurd (by decide) c9)
  refine lv_iload hx hb dX12_feed_40 (lv_at hl 0 rfl) ?_
  refine lv_bipush (v := 8) hx hb dX12_feed_42 (by decide) ?_
  refine lv_icmp_ge (tgt := 51) hx hb dX12_feed_44 (by decide) (fun _ => ?_) (fun c9 => absurd (by decide) c9)
  refine lv_iload hx hb dX12_feed_51 (lv_at hl 0 rfl) ?_
  refine lv_bipush (v := 12) hx hb dX12_feed_53 (by decide) ?_
  refine lv_icmp_ge (tgt := 62) hx hb dX12_feed_55 (by decide) (fun _ => ?_) (fun c9 => absurd (by decide) c9)
  refine lv_iload hx hb dX12_feed_62 (lv_at hl 0 rfl) ?_
  refine lv_bipush (v := 16) hx hb dX12_feed_64 (by decide) ?_
  refine lv_icmp_ge (tgt := 74) hx hb dX12_feed_66 (by decide) (fun _ => ?_) (fun c9 => absurd (by decide) c9)
  refine lv_iload hx hb dX12_feed_74 (lv_at hl 7 rfl) ?_
  refine lv_istore (lv' := [(7, .int p4), (6, .int 16), (0, .ref q0), (1, .int p0), (2, .int p1), (3, .int p2), (4, .int p3), (5, .int p4)]) hx hb dX12_feed_76 hl (by decide) rfl (fun ls hl => ?_)
  refine lv_aload_n hx hb dX12_feed_78 rfl (lv_at hl 2 rfl) ?_
  refine va_get (D := (dC, dI)) (ci := 12) (v := .ref q2) (C := RX12) (T := TX12) (N := 81) hx hb hts (fun w h => mc (in_X12 w h)) hown hK hP 0 rfl rfl 2 (by decide) (hts _ (mc m_203)) (fun _ h9 => h9) rfl dX12_feed_79 ?_
  refine lv_aload_n hx hb dX12_feed_82 rfl (lv_at hl 2 rfl) ?_
  refine va_get (D := (dC, dI)) (ci := 12) (v := .int (nI (n0 + 16))) (C := RX12) (T := TX12) (N := 81) hx hb hts (fun w h => mc (in_X12 w h)) hown hK hP 0 rfl rfl 5 (by decide) (hts _ (mc m_257)) (fun _ h9 => h9) rfl dX12_feed_83 ?_
  refine lv_iload hx hb dX12_feed_86 (lv_at hl 0 rfl) ?_
  refine lv_bipush (v := 24) hx hb dX12_feed_88 (by decide) ?_
  refine lv_bipush (v := 8) hx hb dX12_feed_90 (by decide) ?_
  refine lv_iload hx hb dX12_feed_92 (lv_at hl 1 rfl) ?_
  refine lv_iconst (v := 4) hx hb dX12_feed_94 (by decide) ?_
  refine lv_irem hx hb dX12_feed_95 (by decide) ?_
  refine q_topi 0 (by decide) ?_
  refine lv_imul hx hb dX12_feed_96 ?_
  refine q_topi 0 (by decide) ?_
  refine lv_isub hx hb dX12_feed_97 ?_
  refine q_topi 24 (by decide) ?_
  refine lv_ishr hx hb dX12_feed_98 ?_
  refine lv_topi (fun x149 ex149 => ?_)
  refine lv_sipush (v := 255) hx hb dX12_feed_99 (by decide) ?_
  refine lv_iand hx hb dX12_feed_102 ?_
  refine lv_topi (fun x150 ex150 => ?_)
  refine va_iast hx hb hK hP hD hS 1 0 rfl rfl (vp_in_nI (by omega) (by decide)) dX12_feed_103 (fun H locs hP hD hS => ?_)
  have hP : va_P (dC, dI) classes [(q0, .inr (12, [.ref q1, .int 0, .ref q2, .ref q3, .ref q4, .int (nI (n0 + 16)), .int x1, .int x2, .int x3, .int x4, .int x5, .int x6, .int x7, .int x8, .int x9, .int x10, .int x11, .int x12, .int x13, .int x14, .int x15, .ref q5, .ref q6, .ref q7, .ref q8, .ref q9, .ref q10, .ref q11, .ref q12, .int x16, .ref q13, .ref q14, .ref q15, .ref q16, .int x17, .ref q17, .ref q18, .ref q19, .ref q20, .ref q21, .ref q22, .ref q23, .ref q24, .ref q25, .ref q26, .ref q27, .ref q28, .int x18, .ref q29, .ref q30, .int x19, .ref q31, .ref q32, .ref q33, .ref q34, .ref q35, .int x20, .int x21, .int x22, .int x23, .int x24, .int x25, .int x26, .int x27, .int x28, .int x29, .int x30, .int x31, .int x32, .int x33, .ref q36, .ref q37, .ref q38, .ref q39, .ref q40, .int x34, .int x35, .ref q41, .ref q42, .int x36, .ref q43])), (q2, .inl (k0, 3000, .inl (upd f148 (Int32.toNatClampNeg (nI (n0 + 16))) x150)))] H := hP
  have hD : va_D A [(q0, .inr (12, [.ref q1, .int 0, .ref q2, .ref q3, .ref q4, .int (nI (n0 + 16)), .int x1, .int x2, .int x3, .int x4, .int x5, .int x6, .int x7, .int x8, .int x9, .int x10, .int x11, .int x12, .int x13, .int x14, .int x15, .ref q5, .ref q6, .ref q7, .ref q8, .ref q9, .ref q10, .ref q11, .ref q12, .int x16, .ref q13, .ref q14, .ref q15, .ref q16, .int x17, .ref q17, .ref q18, .ref q19, .ref q20, .ref q21, .ref q22, .ref q23, .ref q24, .ref q25, .ref q26, .ref q27, .ref q28, .int x18, .ref q29, .ref q30, .int x19, .ref q31, .ref q32, .ref q33, .ref q34, .ref q35, .int x20, .int x21, .int x22, .int x23, .int x24, .int x25, .int x26, .int x27, .int x28, .int x29, .int x30, .int x31, .int x32, .int x33, .ref q36, .ref q37, .ref q38, .ref q39, .ref q40, .int x34, .int x35, .ref q41, .ref q42, .int x36, .ref q43])), (q2, .inl (k0, 3000, .inl (upd f148 (Int32.toNatClampNeg (nI (n0 + 16))) x150)))] := hD
  obtain ⟨f151, ef151⟩ : ∃ z : Nat → Int32, z = (upd f148 (Int32.toNatClampNeg (nI (n0 + 16))) x150) := ⟨_, rfl⟩
  rw [← ef151] at hP hD
  have hP : va_P (dC, dI) classes [(q0, .inr (12, [.ref q1, .int 0, .ref q2, .ref q3, .ref q4, .int (nI (n0 + 16)), .int x1, .int x2, .int x3, .int x4, .int x5, .int x6, .int x7, .int x8, .int x9, .int x10, .int x11, .int x12, .int x13, .int x14, .int x15, .ref q5, .ref q6, .ref q7, .ref q8, .ref q9, .ref q10, .ref q11, .ref q12, .int x16, .ref q13, .ref q14, .ref q15, .ref q16, .int x17, .ref q17, .ref q18, .ref q19, .ref q20, .ref q21, .ref q22, .ref q23, .ref q24, .ref q25, .ref q26, .ref q27, .ref q28, .int x18, .ref q29, .ref q30, .int x19, .ref q31, .ref q32, .ref q33, .ref q34, .ref q35, .int x20, .int x21, .int x22, .int x23, .int x24, .int x25, .int x26, .int x27, .int x28, .int x29, .int x30, .int x31, .int x32, .int x33, .ref q36, .ref q37, .ref q38, .ref q39, .ref q40, .int x34, .int x35, .ref q41, .ref q42, .int x36, .ref q43])), (q2, .inl (k0, 3000, .inl f151))] H := hP
  have hD : va_D A [(q0, .inr (12, [.ref q1, .int 0, .ref q2, .ref q3, .ref q4, .int (nI (n0 + 16)), .int x1, .int x2, .int x3, .int x4, .int x5, .int x6, .int x7, .int x8, .int x9, .int x10, .int x11, .int x12, .int x13, .int x14, .int x15, .ref q5, .ref q6, .ref q7, .ref q8, .ref q9, .ref q10, .ref q11, .ref q12, .int x16, .ref q13, .ref q14, .ref q15, .ref q16, .int x17, .ref q17, .ref q18, .ref q19, .ref q20, .ref q21, .ref q22, .ref q23, .ref q24, .ref q25, .ref q26, .ref q27, .ref q28, .int x18, .ref q29, .ref q30, .int x19, .ref q31, .ref q32, .ref q33, .ref q34, .ref q35, .int x20, .int x21, .int x22, .int x23, .int x24, .int x25, .int x26, .int x27, .int x28, .int x29, .int x30, .int x31, .int x32, .int x33, .ref q36, .ref q37, .ref q38, .ref q39, .ref q40, .int x34, .int x35, .ref q41, .ref q42, .int x36, .ref q43])), (q2, .inl (k0, 3000, .inl f151))] := hD
  refine lv_aload_n hx hb dX12_feed_104 rfl (lv_at hl 2 rfl) ?_
  refine lv_dup hx hb dX12_feed_105 rfl ?_
  refine va_get (D := (dC, dI)) (ci := 12) (v := .int (nI (n0 + 16))) (C := RX12) (T := TX12) (N := 81) hx hb hts (fun w h => mc (in_X12 w h)) hown hK hP 0 rfl rfl 5 (by decide) (hts _ (mc m_257)) (fun _ h9 => h9) rfl dX12_feed_106 ?_
  refine lv_iconst (v := 1) hx hb dX12_feed_109 (by decide) ?_
  refine lv_iadd hx hb dX12_feed_110 ?_
  refine q_topi (nI (n0 + 17)) (nI_add _ 1) ?_
  refine va_put (D := (dC, dI)) (ci := 12) (v := .int (nI (n0 + 17))) (ty := .int) (C := RX12) (T := TX12) (N := 81) hx hb hts (fun w h => mc (in_X12 w h)) tyX12 tyX12_ok nmX12 hown hK hP hD hS 0 rfl rfl 5 (by decide) (hts _ (mc m_257)) (fun _ h9 => h9) rfl (by decide +kernel) (by first | rfl | decide) (by first | rfl | decide) (Nat.le_of_ble_eq_true rfl) dX12_feed_111 (fun H locs hP hD hS => ?_)
  have hP : va_P (dC, dI) classes [(q0, .inr (12, [.ref q1, .int 0, .ref q2, .ref q3, .ref q4, .int (nI (n0 + 17)), .int x1, .int x2, .int x3, .int x4, .int x5, .int x6, .int x7, .int x8, .int x9, .int x10, .int x11, .int x12, .int x13, .int x14, .int x15, .ref q5, .ref q6, .ref q7, .ref q8, .ref q9, .ref q10, .ref q11, .ref q12, .int x16, .ref q13, .ref q14, .ref q15, .ref q16, .int x17, .ref q17, .ref q18, .ref q19, .ref q20, .ref q21, .ref q22, .ref q23, .ref q24, .ref q25, .ref q26, .ref q27, .ref q28, .int x18, .ref q29, .ref q30, .int x19, .ref q31, .ref q32, .ref q33, .ref q34, .ref q35, .int x20, .int x21, .int x22, .int x23, .int x24, .int x25, .int x26, .int x27, .int x28, .int x29, .int x30, .int x31, .int x32, .int x33, .ref q36, .ref q37, .ref q38, .ref q39, .ref q40, .int x34, .int x35, .ref q41, .ref q42, .int x36, .ref q43])), (q2, .inl (k0, 3000, .inl f151))] H := hP
  have hD : va_D A [(q0, .inr (12, [.ref q1, .int 0, .ref q2, .ref q3, .ref q4, .int (nI (n0 + 17)), .int x1, .int x2, .int x3, .int x4, .int x5, .int x6, .int x7, .int x8, .int x9, .int x10, .int x11, .int x12, .int x13, .int x14, .int x15, .ref q5, .ref q6, .ref q7, .ref q8, .ref q9, .ref q10, .ref q11, .ref q12, .int x16, .ref q13, .ref q14, .ref q15, .ref q16, .int x17, .ref q17, .ref q18, .ref q19, .ref q20, .ref q21, .ref q22, .ref q23, .ref q24, .ref q25, .ref q26, .ref q27, .ref q28, .int x18, .ref q29, .ref q30, .int x19, .ref q31, .ref q32, .ref q33, .ref q34, .ref q35, .int x20, .int x21, .int x22, .int x23, .int x24, .int x25, .int x26, .int x27, .int x28, .int x29, .int x30, .int x31, .int x32, .int x33, .ref q36, .ref q37, .ref q38, .ref q39, .ref q40, .int x34, .int x35, .ref q41, .ref q42, .int x36, .ref q43])), (q2, .inl (k0, 3000, .inl f151))] := hD
  refine lv_iinc (v := 17) (lv' := [(6, .int 17), (7, .int p4), (0, .ref q0), (1, .int p0), (2, .int p1), (3, .int p2), (4, .int p3), (5, .int p4)]) hx hb dX12_feed_114 hl (k := 1) rfl (by decide) (by decide) rfl (fun ls hl => ?_)
  refine lv_goto (tgt := 23) hx hb dX12_feed_117 (by decide) ?_
  refine lv_iload hx hb dX12_feed_23 (lv_at hl 0 rfl) ?_
  refine lv_bipush (v := 20) hx hb dX12_feed_25 (by decide) ?_
  refine lv_icmp_ge (tgt := 120) hx hb dX12_feed_27 (by decide) (fun c9 => absurd c9 (by decide)) (fun _ => ?_)
  refine lv_iload hx hb dX12_feed_30 (lv_at hl 0 rfl) ?_
  refine lv_iconst (v := 4) hx hb dX12_feed_32 (by decide) ?_
  refine lv_icmp_ge (tgt := 40) hx hb dX12_feed_33 (by decide) (fun _ => ?_) (fun c9 => absurd (by decide) c9)
  refine lv_iload hx hb dX12_feed_40 (lv_at hl 0 rfl) ?_
  refine lv_bipush (v := 8) hx hb dX12_feed_42 (by decide) ?_
  refine lv_icmp_ge (tgt := 51) hx hb dX12_feed_44 (by decide) (fun _ => ?_) (fun c9 => absurd (by decide) c9)
  refine lv_iload hx hb dX12_feed_51 (lv_at hl 0 rfl) ?_
  refine lv_bipush (v := 12) hx hb dX12_feed_53 (by decide) ?_
  refine lv_icmp_ge (tgt := 62) hx hb dX12_feed_55 (by decide) (fun _ => ?_) (fun c9 => absurd (by decide) c9)
  refine lv_iload hx hb dX12_feed_62 (lv_at hl 0 rfl) ?_
  refine lv_bipush (v := 16) hx hb dX12_feed_64 (by decide) ?_
  refine lv_icmp_ge (tgt := 74) hx hb dX12_feed_66 (by decide) (fun _ => ?_) (fun c9 => absurd (by decide) c9)
  refine lv_iload hx hb dX12_feed_74 (lv_at hl 7 rfl) ?_
  refine lv_istore (lv' := [(7, .int p4), (6, .int 17), (0, .ref q0), (1, .int p0), (2, .int p1), (3, .int p2), (4, .int p3), (5, .int p4)]) hx hb dX12_feed_76 hl (by decide) rfl (fun ls hl => ?_)
  refine lv_aload_n hx hb dX12_feed_78 rfl (lv_at hl 2 rfl) ?_
  refine va_get (D := (dC, dI)) (ci := 12) (v := .ref q2) (C := RX12) (T := TX12) (N := 81) hx hb hts (fun w h => mc (in_X12 w h)) hown hK hP 0 rfl rfl 2 (by decide) (hts _ (mc m_203)) (fun _ h9 => h9) rfl dX12_feed_79 ?_
  refine lv_aload_n hx hb dX12_feed_82 rfl (lv_at hl 2 rfl) ?_
  refine va_get (D := (dC, dI)) (ci := 12) (v := .int (nI (n0 + 17))) (C := RX12) (T := TX12) (N := 81) hx hb hts (fun w h => mc (in_X12 w h)) hown hK hP 0 rfl rfl 5 (by decide) (hts _ (mc m_257)) (fun _ h9 => h9) rfl dX12_feed_83 ?_
  refine lv_iload hx hb dX12_feed_86 (lv_at hl 0 rfl) ?_
  refine lv_bipush (v := 24) hx hb dX12_feed_88 (by decide) ?_
  refine lv_bipush (v := 8) hx hb dX12_feed_90 (by decide) ?_
  refine lv_iload hx hb dX12_feed_92 (lv_at hl 1 rfl) ?_
  refine lv_iconst (v := 4) hx hb dX12_feed_94 (by decide) ?_
  refine lv_irem hx hb dX12_feed_95 (by decide) ?_
  refine q_topi 1 (by decide) ?_
  refine lv_imul hx hb dX12_feed_96 ?_
  refine q_topi 8 (by decide) ?_
  refine lv_isub hx hb dX12_feed_97 ?_
  refine q_topi 16 (by decide) ?_
  refine lv_ishr hx hb dX12_feed_98 ?_
  refine lv_topi (fun x152 ex152 => ?_)
  refine lv_sipush (v := 255) hx hb dX12_feed_99 (by decide) ?_
  refine lv_iand hx hb dX12_feed_102 ?_
  refine lv_topi (fun x153 ex153 => ?_)
  refine va_iast hx hb hK hP hD hS 1 0 rfl rfl (vp_in_nI (by omega) (by decide)) dX12_feed_103 (fun H locs hP hD hS => ?_)
  have hP : va_P (dC, dI) classes [(q0, .inr (12, [.ref q1, .int 0, .ref q2, .ref q3, .ref q4, .int (nI (n0 + 17)), .int x1, .int x2, .int x3, .int x4, .int x5, .int x6, .int x7, .int x8, .int x9, .int x10, .int x11, .int x12, .int x13, .int x14, .int x15, .ref q5, .ref q6, .ref q7, .ref q8, .ref q9, .ref q10, .ref q11, .ref q12, .int x16, .ref q13, .ref q14, .ref q15, .ref q16, .int x17, .ref q17, .ref q18, .ref q19, .ref q20, .ref q21, .ref q22, .ref q23, .ref q24, .ref q25, .ref q26, .ref q27, .ref q28, .int x18, .ref q29, .ref q30, .int x19, .ref q31, .ref q32, .ref q33, .ref q34, .ref q35, .int x20, .int x21, .int x22, .int x23, .int x24, .int x25, .int x26, .int x27, .int x28, .int x29, .int x30, .int x31, .int x32, .int x33, .ref q36, .ref q37, .ref q38, .ref q39, .ref q40, .int x34, .int x35, .ref q41, .ref q42, .int x36, .ref q43])), (q2, .inl (k0, 3000, .inl (upd f151 (Int32.toNatClampNeg (nI (n0 + 17))) x153)))] H := hP
  have hD : va_D A [(q0, .inr (12, [.ref q1, .int 0, .ref q2, .ref q3, .ref q4, .int (nI (n0 + 17)), .int x1, .int x2, .int x3, .int x4, .int x5, .int x6, .int x7, .int x8, .int x9, .int x10, .int x11, .int x12, .int x13, .int x14, .int x15, .ref q5, .ref q6, .ref q7, .ref q8, .ref q9, .ref q10, .ref q11, .ref q12, .int x16, .ref q13, .ref q14, .ref q15, .ref q16, .int x17, .ref q17, .ref q18, .ref q19, .ref q20, .ref q21, .ref q22, .ref q23, .ref q24, .ref q25, .ref q26, .ref q27, .ref q28, .int x18, .ref q29, .ref q30, .int x19, .ref q31, .ref q32, .ref q33, .ref q34, .ref q35, .int x20, .int x21, .int x22, .int x23, .int x24, .int x25, .int x26, .int x27, .int x28, .int x29, .int x30, .int x31, .int x32, .int x33, .ref q36, .ref q37, .ref q38, .ref q39, .ref q40, .int x34, .int x35, .ref q41, .ref q42, .int x36, .ref q43])), (q2, .inl (k0, 3000, .inl (upd f151 (Int32.toNatClampNeg (nI (n0 + 17))) x153)))] := hD
  obtain ⟨f154, ef154⟩ : ∃ z : Nat → Int32, z = (upd f151 (Int32.toNatClampNeg (nI (n0 + 17))) x153) := ⟨_, rfl⟩
  rw [← ef154] at hP hD
  have hP : va_P (dC, dI) classes [(q0, .inr (12, [.ref q1, .int 0, .ref q2, .ref q3, .ref q4, .int (nI (n0 + 17)), .int x1, .int x2, .int x3, .int x4, .int x5, .int x6, .int x7, .int x8, .int x9, .int x10, .int x11, .int x12, .int x13, .int x14, .int x15, .ref q5, .ref q6, .ref q7, .ref q8, .ref q9, .ref q10, .ref q11, .ref q12, .int x16, .ref q13, .ref q14, .ref q15, .ref q16, .int x17, .ref q17, .ref q18, .ref q19, .ref q20, .ref q21, .ref q22, .ref q23, .ref q24, .ref q25, .ref q26, .ref q27, .ref q28, .int x18, .ref q29, .ref q30, .int x19, .ref q31, .ref q32, .ref q33, .ref q34, .ref q35, .int x20, .int x21, .int x22, .int x23, .int x24, .int x25, .int x26, .int x27, .int x28, .int x29, .int x30, .int x31, .int x32, .int x33, .ref q36, .ref q37, .ref q38, .ref q39, .ref q40, .int x34, .int x35, .ref q41, .ref q42, .int x36, .ref q43])), (q2, .inl (k0, 3000, .inl f154))] H := hP
  have hD : va_D A [(q0, .inr (12, [.ref q1, .int 0, .ref q2, .ref q3, .ref q4, .int (nI (n0 + 17)), .int x1, .int x2, .int x3, .int x4, .int x5, .int x6, .int x7, .int x8, .int x9, .int x10, .int x11, .int x12, .int x13, .int x14, .int x15, .ref q5, .ref q6, .ref q7, .ref q8, .ref q9, .ref q10, .ref q11, .ref q12, .int x16, .ref q13, .ref q14, .ref q15, .ref q16, .int x17, .ref q17, .ref q18, .ref q19, .ref q20, .ref q21, .ref q22, .ref q23, .ref q24, .ref q25, .ref q26, .ref q27, .ref q28, .int x18, .ref q29, .ref q30, .int x19, .ref q31, .ref q32, .ref q33, .ref q34, .ref q35, .int x20, .int x21, .int x22, .int x23, .int x24, .int x25, .int x26, .int x27, .int x28, .int x29, .int x30, .int x31, .int x32, .int x33, .ref q36, .ref q37, .ref q38, .ref q39, .ref q40, .int x34, .int x35, .ref q41, .ref q42, .int x36, .ref q43])), (q2, .inl (k0, 3000, .inl f154))] := hD
  refine lv_aload_n hx hb dX12_feed_104 rfl (lv_at hl 2 rfl) ?_
  refine lv_dup hx hb dX12_feed_105 rfl ?_
  refine va_get (D := (dC, dI)) (ci := 12) (v := .int (nI (n0 + 17))) (C := RX12) (T := TX12) (N := 81) hx hb hts (fun w h => mc (in_X12 w h)) hown hK hP 0 rfl rfl 5 (by decide) (hts _ (mc m_257)) (fun _ h9 => h9) rfl dX12_feed_106 ?_
  refine lv_iconst (v := 1) hx hb dX12_feed_109 (by decide) ?_
  refine lv_iadd hx hb dX12_feed_110 ?_
  refine q_topi (nI (n0 + 18)) (nI_add _ 1) ?_
  refine va_put (D := (dC, dI)) (ci := 12) (v := .int (nI (n0 + 18))) (ty := .int) (C := RX12) (T := TX12) (N := 81) hx hb hts (fun w h => mc (in_X12 w h)) tyX12 tyX12_ok nmX12 hown hK hP hD hS 0 rfl rfl 5 (by decide) (hts _ (mc m_257)) (fun _ h9 => h9) rfl (by decide +kernel) (by first | rfl | decide) (by first | rfl | decide) (Nat.le_of_ble_eq_true rfl) dX12_feed_111 (fun H locs hP hD hS => ?_)
  have hP : va_P (dC, dI) classes [(q0, .inr (12, [.ref q1, .int 0, .ref q2, .ref q3, .ref q4, .int (nI (n0 + 18)), .int x1, .int x2, .int x3, .int x4, .int x5, .int x6, .int x7, .int x8, .int x9, .int x10, .int x11, .int x12, .int x13, .int x14, .int x15, .ref q5, .ref q6, .ref q7, .ref q8, .ref q9, .ref q10, .ref q11, .ref q12, .int x16, .ref q13, .ref q14, .ref q15, .ref q16, .int x17, .ref q17, .ref q18, .ref q19, .ref q20, .ref q21, .ref q22, .ref q23, .ref q24, .ref q25, .ref q26, .ref q27, .ref q28, .int x18, .ref q29, .ref q30, .int x19, .ref q31, .ref q32, .ref q33, .ref q34, .ref q35, .int x20, .int x21, .int x22, .int x23, .int x24, .int x25, .int x26, .int x27, .int x28, .int x29, .int x30, .int x31, .int x32, .int x33, .ref q36, .ref q37, .ref q38, .ref q39, .ref q40, .int x34, .int x35, .ref q41, .ref q42, .int x36, .ref q43])), (q2, .inl (k0, 3000, .inl f154))] H := hP
  have hD : va_D A [(q0, .inr (12, [.ref q1, .int 0, .ref q2, .ref q3, .ref q4, .int (nI (n0 + 18)), .int x1, .int x2, .int x3, .int x4, .int x5, .int x6, .int x7, .int x8, .int x9, .int x10, .int x11, .int x12, .int x13, .int x14, .int x15, .ref q5, .ref q6, .ref q7, .ref q8, .ref q9, .ref q10, .ref q11, .ref q12, .int x16, .ref q13, .ref q14, .ref q15, .ref q16, .int x17, .ref q17, .ref q18, .ref q19, .ref q20, .ref q21, .ref q22, .ref q23, .ref q24, .ref q25, .ref q26, .ref q27, .ref q28, .int x18, .ref q29, .ref q30, .int x19, .ref q31, .ref q32, .ref q33, .ref q34, .ref q35, .int x20, .int x21, .int x22, .int x23, .int x24, .int x25, .int x26, .int x27, .int x28, .int x29, .int x30, .int x31, .int x32, .int x33, .ref q36, .ref q37, .ref q38, .ref q39, .ref q40, .int x34, .int x35, .ref q41, .ref q42, .int x36, .ref q43])), (q2, .inl (k0, 3000, .inl f154))] := hD
  refine lv_iinc (v := 18) (lv' := [(6, .int 18), (7, .int p4), (0, .ref q0), (1, .int p0), (2, .int p1), (3, .int p2), (4, .int p3), (5, .int p4)]) hx hb dX12_feed_114 hl (k := 1) rfl (by decide) (by decide) rfl (fun ls hl => ?_)
  refine lv_goto (tgt := 23) hx hb dX12_feed_117 (by decide) ?_
  refine lv_iload hx hb dX12_feed_23 (lv_at hl 0 rfl) ?_
  refine lv_bipush (v := 20) hx hb dX12_feed_25 (by decide) ?_
  refine lv_icmp_ge (tgt := 120) hx hb dX12_feed_27 (by decide) (fun c9 => absurd c9 (by decide)) (fun _ => ?_)
  refine lv_iload hx hb dX12_feed_30 (lv_at hl 0 rfl) ?_
  refine lv_iconst (v := 4) hx hb dX12_feed_32 (by decide) ?_
  refine lv_icmp_ge (tgt := 40) hx hb dX12_feed_33 (by decide) (fun _ => ?_) (fun c9 => absurd (by decide) c9)
  refine lv_iload hx hb dX12_feed_40 (lv_at hl 0 rfl) ?_
  refine lv_bipush (v := 8) hx hb dX12_feed_42 (by decide) ?_
  refine lv_icmp_ge (tgt := 51) hx hb dX12_feed_44 (by decide) (fun _ => ?_) (fun c9 => absurd (by decide) c9)
  refine lv_iload hx hb dX12_feed_51 (lv_at hl 0 rfl) ?_
  refine lv_bipush (v := 12) hx hb dX12_feed_53 (by decide) ?_
  refine lv_icmp_ge (tgt := 62) hx hb dX12_feed_55 (by decide) (fun _ => ?_) (fun c9 => absurd (by decide) c9)
  refine lv_iload hx hb dX12_feed_62 (lv_at hl 0 rfl) ?_
  refine lv_bipush (v := 16) hx hb dX12_feed_64 (by decide) ?_
  refine lv_icmp_ge (tgt := 74) hx hb dX12_feed_66 (by decide) (fun _ => ?_) (fun c9 => absurd (by decide) c9)
  refine lv_iload hx hb dX12_feed_74 (lv_at hl 7 rfl) ?_
  refine lv_istore (lv' := [(7, .int p4), (6, .int 18), (0, .ref q0), (1, .int p0), (2, .int p1), (3, .int p2), (4, .int p3), (5, .int p4)]) hx hb dX12_feed_76 hl (by decide) rfl (fun ls hl => ?_)
  refine lv_aload_n hx hb dX12_feed_78 rfl (lv_at hl 2 rfl) ?_
  refine va_get (D := (dC, dI)) (ci := 12) (v := .ref q2) (C := RX12) (T := TX12) (N := 81) hx hb hts (fun w h => mc (in_X12 w h)) hown hK hP 0 rfl rfl 2 (by decide) (hts _ (mc m_203)) (fun _ h9 => h9) rfl dX12_feed_79 ?_
  refine lv_aload_n hx hb dX12_feed_82 rfl (lv_at hl 2 rfl) ?_
  refine va_get (D := (dC, dI)) (ci := 12) (v := .int (nI (n0 + 18))) (C := RX12) (T := TX12) (N := 81) hx hb hts (fun w h => mc (in_X12 w h)) hown hK hP 0 rfl rfl 5 (by decide) (hts _ (mc m_257)) (fun _ h9 => h9) rfl dX12_feed_83 ?_
  refine lv_iload hx hb dX12_feed_86 (lv_at hl 0 rfl) ?_
  refine lv_bipush (v := 24) hx hb dX12_feed_88 (by decide) ?_
  refine lv_bipush (v := 8) hx hb dX12_feed_90 (by decide) ?_
  refine lv_iload hx hb dX12_feed_92 (lv_at hl 1 rfl) ?_
  refine lv_iconst (v := 4) hx hb dX12_feed_94 (by decide) ?_
  refine lv_irem hx hb dX12_feed_95 (by decide) ?_
  refine q_topi 2 (by decide) ?_
  refine lv_imul hx hb dX12_feed_96 ?_
  refine q_topi 16 (by decide) ?_
  refine lv_isub hx hb dX12_feed_97 ?_
  refine q_topi 8 (by decide) ?_
  refine lv_ishr hx hb dX12_feed_98 ?_
  refine lv_topi (fun x155 ex155 => ?_)
  refine lv_sipush (v := 255) hx hb dX12_feed_99 (by decide) ?_
  refine lv_iand hx hb dX12_feed_102 ?_
  refine lv_topi (fun x156 ex156 => ?_)
  refine va_iast hx hb hK hP hD hS 1 0 rfl rfl (vp_in_nI (by omega) (by decide)) dX12_feed_103 (fun H locs hP hD hS => ?_)
  have hP : va_P (dC, dI) classes [(q0, .inr (12, [.ref q1, .int 0, .ref q2, .ref q3, .ref q4, .int (nI (n0 + 18)), .int x1, .int x2, .int x3, .int x4, .int x5, .int x6, .int x7, .int x8, .int x9, .int x10, .int x11, .int x12, .int x13, .int x14, .int x15, .ref q5, .ref q6, .ref q7, .ref q8, .ref q9, .ref q10, .ref q11, .ref q12, .int x16, .ref q13, .ref q14, .ref q15, .ref q16, .int x17, .ref q17, .ref q18, .ref q19, .ref q20, .ref q21, .ref q22, .ref q23, .ref q24, .ref q25, .ref q26, .ref q27, .ref q28, .int x18, .ref q29, .ref q30, .int x19, .ref q31, .ref q32, .ref q33, .ref q34, .ref q35, .int x20, .int x21, .int x22, .int x23, .int x24, .int x25, .int x26, .int x27, .int x28, .int x29, .int x30, .int x31, .int x32, .int x33, .ref q36, .ref q37, .ref q38, .ref q39, .ref q40, .int x34, .int x35, .ref q41, .ref q42, .int x36, .ref q43])), (q2, .inl (k0, 3000, .inl (upd f154 (Int32.toNatClampNeg (nI (n0 + 18))) x156)))] H := hP
  have hD : va_D A [(q0, .inr (12, [.ref q1, .int 0, .ref q2, .ref q3, .ref q4, .int (nI (n0 + 18)), .int x1, .int x2, .int x3, .int x4, .int x5, .int x6, .int x7, .int x8, .int x9, .int x10, .int x11, .int x12, .int x13, .int x14, .int x15, .ref q5, .ref q6, .ref q7, .ref q8, .ref q9, .ref q10, .ref q11, .ref q12, .int x16, .ref q13, .ref q14, .ref q15, .ref q16, .int x17, .ref q17, .ref q18, .ref q19, .ref q20, .ref q21, .ref q22, .ref q23, .ref q24, .ref q25, .ref q26, .ref q27, .ref q28, .int x18, .ref q29, .ref q30, .int x19, .ref q31, .ref q32, .ref q33, .ref q34, .ref q35, .int x20, .int x21, .int x22, .int x23, .int x24, .int x25, .int x26, .int x27, .int x28, .int x29, .int x30, .int x31, .int x32, .int x33, .ref q36, .ref q37, .ref q38, .ref q39, .ref q40, .int x34, .int x35, .ref q41, .ref q42, .int x36, .ref q43])), (q2, .inl (k0, 3000, .inl (upd f154 (Int32.toNatClampNeg (nI (n0 + 18))) x156)))] := hD
  obtain ⟨f157, ef157⟩ : ∃ z : Nat → Int32, z = (upd f154 (Int32.toNatClampNeg (nI (n0 + 18))) x156) := ⟨_, rfl⟩
  rw [← ef157] at hP hD
  have hP : va_P (dC, dI) classes [(q0, .inr (12, [.ref q1, .int 0, .ref q2, .ref q3, .ref q4, .int (nI (n0 + 18)), .int x1, .int x2, .int x3, .int x4, .int x5, .int x6, .int x7, .int x8, .int x9, .int x10, .int x11, .int x12, .int x13, .int x14, .int x15, .ref q5, .ref q6, .ref q7, .ref q8, .ref q9, .ref q10, .ref q11, .ref q12, .int x16, .ref q13, .ref q14, .ref q15, .ref q16, .int x17, .ref q17, .ref q18, .ref q19, .ref q20, .ref q21, .ref q22, .ref q23, .ref q24, .ref q25, .ref q26, .ref q27, .ref q28, .int x18, .ref q29, .ref q30, .int x19, .ref q31, .ref q32, .ref q33, .ref q34, .ref q35, .int x20, .int x21, .int x22, .int x23, .int x24, .int x25, .int x26, .int x27, .int x28, .int x29, .int x30, .int x31, .int x32, .int x33, .ref q36, .ref q37, .ref q38, .ref q39, .ref q40, .int x34, .int x35, .ref q41, .ref q42, .int x36, .ref q43])), (q2, .inl (k0, 3000, .inl f157))] H := hP
  have hD : va_D A [(q0, .inr (12, [.ref q1, .int 0, .ref q2, .ref q3, .ref q4, .int (nI (n0 + 18)), .int x1, .int x2, .int x3, .int x4, .int x5, .int x6, .int x7, .int x8, .int x9, .int x10, .int x11, .int x12, .int x13, .int x14, .int x15, .ref q5, .ref q6, .ref q7, .ref q8, .ref q9, .ref q10, .ref q11, .ref q12, .int x16, .ref q13, .ref q14, .ref q15, .ref q16, .int x17, .ref q17, .ref q18, .ref q19, .ref q20, .ref q21, .ref q22, .ref q23, .ref q24, .ref q25, .ref q26, .ref q27, .ref q28, .int x18, .ref q29, .ref q30, .int x19, .ref q31, .ref q32, .ref q33, .ref q34, .ref q35, .int x20, .int x21, .int x22, .int x23, .int x24, .int x25, .int x26, .int x27, .int x28, .int x29, .int x30, .int x31, .int x32, .int x33, .ref q36, .ref q37, .ref q38, .ref q39, .ref q40, .int x34, .int x35, .ref q41, .ref q42, .int x36, .ref q43])), (q2, .inl (k0, 3000, .inl f157))] := hD
  refine lv_aload_n hx hb dX12_feed_104 rfl (lv_at hl 2 rfl) ?_
  refine lv_dup hx hb dX12_feed_105 rfl ?_
  refine va_get (D := (dC, dI)) (ci := 12) (v := .int (nI (n0 + 18))) (C := RX12) (T := TX12) (N := 81) hx hb hts (fun w h => mc (in_X12 w h)) hown hK hP 0 rfl rfl 5 (by decide) (hts _ (mc m_257)) (fun _ h9 => h9) rfl dX12_feed_106 ?_
  refine lv_iconst (v := 1) hx hb dX12_feed_109 (by decide) ?_
  refine lv_iadd hx hb dX12_feed_110 ?_
  refine q_topi (nI (n0 + 19)) (nI_add _ 1) ?_
  refine va_put (D := (dC, dI)) (ci := 12) (v := .int (nI (n0 + 19))) (ty := .int) (C := RX12) (T := TX12) (N := 81) hx hb hts (fun w h => mc (in_X12 w h)) tyX12 tyX12_ok nmX12 hown hK hP hD hS 0 rfl rfl 5 (by decide) (hts _ (mc m_257)) (fun _ h9 => h9) rfl (by decide +kernel) (by first | rfl | decide) (by first | rfl | decide) (Nat.le_of_ble_eq_true rfl) dX12_feed_111 (fun H locs hP hD hS => ?_)
  have hP : va_P (dC, dI) classes [(q0, .inr (12, [.ref q1, .int 0, .ref q2, .ref q3, .ref q4, .int (nI (n0 + 19)), .int x1, .int x2, .int x3, .int x4, .int x5, .int x6, .int x7, .int x8, .int x9, .int x10, .int x11, .int x12, .int x13, .int x14, .int x15, .ref q5, .ref q6, .ref q7, .ref q8, .ref q9, .ref q10, .ref q11, .ref q12, .int x16, .ref q13, .ref q14, .ref q15, .ref q16, .int x17, .ref q17, .ref q18, .ref q19, .ref q20, .ref q21, .ref q22, .ref q23, .ref q24, .ref q25, .ref q26, .ref q27, .ref q28, .int x18, .ref q29, .ref q30, .int x19, .ref q31, .ref q32, .ref q33, .ref q34, .ref q35, .int x20, .int x21, .int x22, .int x23, .int x24, .int x25, .int x26, .int x27, .int x28, .int x29, .int x30, .int x31, .int x32, .int x33, .ref q36, .ref q37, .ref q38, .ref q39, .ref q40, .int x34, .int x35, .ref q41, .ref q42, .int x36, .ref q43])), (q2, .inl (k0, 3000, .inl f157))] H := hP
  have hD : va_D A [(q0, .inr (12, [.ref q1, .int 0, .ref q2, .ref q3, .ref q4, .int (nI (n0 + 19)), .int x1, .int x2, .int x3, .int x4, .int x5, .int x6, .int x7, .int x8, .int x9, .int x10, .int x11, .int x12, .int x13, .int x14, .int x15, .ref q5, .ref q6, .ref q7, .ref q8, .ref q9, .ref q10, .ref q11, .ref q12, .int x16, .ref q13, .ref q14, .ref q15, .ref q16, .int x17, .ref q17, .ref q18, .ref q19, .ref q20, .ref q21, .ref q22, .ref q23, .ref q24, .ref q25, .ref q26, .ref q27, .ref q28, .int x18, .ref q29, .ref q30, .int x19, .ref q31, .ref q32, .ref q33, .ref q34, .ref q35, .int x20, .int x21, .int x22, .int x23, .int x24, .int x25, .int x26, .int x27, .int x28, .int x29, .int x30, .int x31, .int x32, .int x33, .ref q36, .ref q37, .ref q38, .ref q39, .ref q40, .int x34, .int x35, .ref q41, .ref q42, .int x36, .ref q43])), (q2, .inl (k0, 3000, .inl f157))] := hD
  refine lv_iinc (v := 19) (lv' := [(6, .int 19), (7, .int p4), (0, .ref q0), (1, .int p0), (2, .int p1), (3, .int p2), (4, .int p3), (5, .int p4)]) hx hb dX12_feed_114 hl (k := 1) rfl (by decide) (by decide) rfl (fun ls hl => ?_)
  refine lv_goto (tgt := 23) hx hb dX12_feed_117 (by decide) ?_
  refine lv_iload hx hb dX12_feed_23 (lv_at hl 0 rfl) ?_
  refine lv_bipush (v := 20) hx hb dX12_feed_25 (by decide) ?_
  refine lv_icmp_ge (tgt := 120) hx hb dX12_feed_27 (by decide) (fun c9 => absurd c9 (by decide)) (fun _ => ?_)
  refine lv_iload hx hb dX12_feed_30 (lv_at hl 0 rfl) ?_
  refine lv_iconst (v := 4) hx hb dX12_feed_32 (by decide) ?_
  refine lv_icmp_ge (tgt := 40) hx hb dX12_feed_33 (by decide) (fun _ => ?_) (fun c9 => absurd (by decide) c9)
  refine lv_iload hx hb dX12_feed_40 (lv_at hl 0 rfl) ?_
  refine lv_bipush (v := 8) hx hb dX12_feed_42 (by decide) ?_
  refine lv_icmp_ge (tgt := 51) hx hb dX12_feed_44 (by decide) (fun _ => ?_) (fun c9 => absurd (by decide) c9)
  refine lv_iload hx hb dX12_feed_51 (lv_at hl 0 rfl) ?_
  refine lv_bipush (v := 12) hx hb dX12_feed_53 (by decide) ?_
  refine lv_icmp_ge (tgt := 62) hx hb dX12_feed_55 (by decide) (fun _ => ?_) (fun c9 => absurd (by decide) c9)
  refine lv_iload hx hb dX12_feed_62 (lv_at hl 0 rfl) ?_
  refine lv_bipush (v := 16) hx hb dX12_feed_64 (by decide) ?_
  refine lv_icmp_ge (tgt := 74) hx hb dX12_feed_66 (by decide) (fun _ => ?_) (fun c9 => absurd (by decide) c9)
  refine lv_iload hx hb dX12_feed_74 (lv_at hl 7 rfl) ?_
  refine lv_istore (lv' := [(7, .int p4), (6, .int 19), (0, .ref q0), (1, .int p0), (2, .int p1), (3, .int p2), (4, .int p3), (5, .int p4)]) hx hb dX12_feed_76 hl (by decide) rfl (fun ls hl => ?_)
  refine lv_aload_n hx hb dX12_feed_78 rfl (lv_at hl 2 rfl) ?_
  refine va_get (D := (dC, dI)) (ci := 12) (v := .ref q2) (C := RX12) (T := TX12) (N := 81) hx hb hts (fun w h => mc (in_X12 w h)) hown hK hP 0 rfl rfl 2 (by decide) (hts _ (mc m_203)) (fun _ h9 => h9) rfl dX12_feed_79 ?_
  refine lv_aload_n hx hb dX12_feed_82 rfl (lv_at hl 2 rfl) ?_
  refine va_get (D := (dC, dI)) (ci := 12) (v := .int (nI (n0 + 19))) (C := RX12) (T := TX12) (N := 81) hx hb hts (fun w h => mc (in_X12 w h)) hown hK hP 0 rfl rfl 5 (by decide) (hts _ (mc m_257)) (fun _ h9 => h9) rfl dX12_feed_83 ?_
  refine lv_iload hx hb dX12_feed_86 (lv_at hl 0 rfl) ?_
  refine lv_bipush (v := 24) hx hb dX12_feed_88 (by decide) ?_
  refine lv_bipush (v := 8) hx hb dX12_feed_90 (by decide) ?_
  refine lv_iload hx hb dX12_feed_92 (lv_at hl 1 rfl) ?_
  refine lv_iconst (v := 4) hx hb dX12_feed_94 (by decide) ?_
  refine lv_irem hx hb dX12_feed_95 (by decide) ?_
  refine q_topi 3 (by decide) ?_
  refine lv_imul hx hb dX12_feed_96 ?_
  refine q_topi 24 (by decide) ?_
  refine lv_isub hx hb dX12_feed_97 ?_
  refine q_topi 0 (by decide) ?_
  refine lv_ishr hx hb dX12_feed_98 ?_
  refine lv_topi (fun x158 ex158 => ?_)
  refine lv_sipush (v := 255) hx hb dX12_feed_99 (by decide) ?_
  refine lv_iand hx hb dX12_feed_102 ?_
  refine lv_topi (fun x159 ex159 => ?_)
  refine va_iast hx hb hK hP hD hS 1 0 rfl rfl (vp_in_nI (by omega) (by decide)) dX12_feed_103 (fun H locs hP hD hS => ?_)
  have hP : va_P (dC, dI) classes [(q0, .inr (12, [.ref q1, .int 0, .ref q2, .ref q3, .ref q4, .int (nI (n0 + 19)), .int x1, .int x2, .int x3, .int x4, .int x5, .int x6, .int x7, .int x8, .int x9, .int x10, .int x11, .int x12, .int x13, .int x14, .int x15, .ref q5, .ref q6, .ref q7, .ref q8, .ref q9, .ref q10, .ref q11, .ref q12, .int x16, .ref q13, .ref q14, .ref q15, .ref q16, .int x17, .ref q17, .ref q18, .ref q19, .ref q20, .ref q21, .ref q22, .ref q23, .ref q24, .ref q25, .ref q26, .ref q27, .ref q28, .int x18, .ref q29, .ref q30, .int x19, .ref q31, .ref q32, .ref q33, .ref q34, .ref q35, .int x20, .int x21, .int x22, .int x23, .int x24, .int x25, .int x26, .int x27, .int x28, .int x29, .int x30, .int x31, .int x32, .int x33, .ref q36, .ref q37, .ref q38, .ref q39, .ref q40, .int x34, .int x35, .ref q41, .ref q42, .int x36, .ref q43])), (q2, .inl (k0, 3000, .inl (upd f157 (Int32.toNatClampNeg (nI (n0 + 19))) x159)))] H := hP
  have hD : va_D A [(q0, .inr (12, [.ref q1, .int 0, .ref q2, .ref q3, .ref q4, .int (nI (n0 + 19)), .int x1, .int x2, .int x3, .int x4, .int x5, .int x6, .int x7, .int x8, .int x9, .int x10, .int x11, .int x12, .int x13, .int x14, .int x15, .ref q5, .ref q6, .ref q7, .ref q8, .ref q9, .ref q10, .ref q11, .ref q12, .int x16, .ref q13, .ref q14, .ref q15, .ref q16, .int x17, .ref q17, .ref q18, .ref q19, .ref q20, .ref q21, .ref q22, .ref q23, .ref q24, .ref q25, .ref q26, .ref q27, .ref q28, .int x18, .ref q29, .ref q30, .int x19, .ref q31, .ref q32, .ref q33, .ref q34, .ref q35, .int x20, .int x21, .int x22, .int x23, .int x24, .int x25, .int x26, .int x27, .int x28, .int x29, .int x30, .int x31, .int x32, .int x33, .ref q36, .ref q37, .ref q38, .ref q39, .ref q40, .int x34, .int x35, .ref q41, .ref q42, .int x36, .ref q43])), (q2, .inl (k0, 3000, .inl (upd f157 (Int32.toNatClampNeg (nI (n0 + 19))) x159)))] := hD
  obtain ⟨f160, ef160⟩ : ∃ z : Nat → Int32, z = (upd f157 (Int32.toNatClampNeg (nI (n0 + 19))) x159) := ⟨_, rfl⟩
  rw [← ef160] at hP hD
  have hP : va_P (dC, dI) classes [(q0, .inr (12, [.ref q1, .int 0, .ref q2, .ref q3, .ref q4, .int (nI (n0 + 19)), .int x1, .int x2, .int x3, .int x4, .int x5, .int x6, .int x7, .int x8, .int x9, .int x10, .int x11, .int x12, .int x13, .int x14, .int x15, .ref q5, .ref q6, .ref q7, .ref q8, .ref q9, .ref q10, .ref q11, .ref q12, .int x16, .ref q13, .ref q14, .ref q15, .ref q16, .int x17, .ref q17, .ref q18, .ref q19, .ref q20, .ref q21, .ref q22, .ref q23, .ref q24, .ref q25, .ref q26, .ref q27, .ref q28, .int x18, .ref q29, .ref q30, .int x19, .ref q31, .ref q32, .ref q33, .ref q34, .ref q35, .int x20, .int x21, .int x22, .int x23, .int x24, .int x25, .int x26, .int x27, .int x28, .int x29, .int x30, .int x31, .int x32, .int x33, .ref q36, .ref q37, .ref q38, .ref q39, .ref q40, .int x34, .int x35, .ref q41, .ref q42, .int x36, .ref q43])), (q2, .inl (k0, 3000, .inl f160))] H := hP
  have hD : va_D A [(q0, .inr (12, [.ref q1, .int 0, .ref q2, .ref q3, .ref q4, .int (nI (n0 + 19)), .int x1, .int x2, .int x3, .int x4, .int x5, .int x6, .int x7, .int x8, .int x9, .int x10, .int x11, .int x12, .int x13, .int x14, .int x15, .ref q5, .ref q6, .ref q7, .ref q8, .ref q9, .ref q10, .ref q11, .ref q12, .int x16, .ref q13, .ref q14, .ref q15, .ref q16, .int x17, .ref q17, .ref q18, .ref q19, .ref q20, .ref q21, .ref q22, .ref q23, .ref q24, .ref q25, .ref q26, .ref q27, .ref q28, .int x18, .ref q29, .ref q30, .int x19, .ref q31, .ref q32, .ref q33, .ref q34, .ref q35, .int x20, .int x21, .int x22, .int x23, .int x24, .int x25, .int x26, .int x27, .int x28, .int x29, .int x30, .int x31, .int x32, .int x33, .ref q36, .ref q37, .ref q38, .ref q39, .ref q40, .int x34, .int x35, .ref q41, .ref q42, .int x36, .ref q43])), (q2, .inl (k0, 3000, .inl f160))] := hD
  refine lv_aload_n hx hb dX12_feed_104 rfl (lv_at hl 2 rfl) ?_
  refine lv_dup hx hb dX12_feed_105 rfl ?_
  refine va_get (D := (dC, dI)) (ci := 12) (v := .int (nI (n0 + 19))) (C := RX12) (T := TX12) (N := 81) hx hb hts (fun w h => mc (in_X12 w h)) hown hK hP 0 rfl rfl 5 (by decide) (hts _ (mc m_257)) (fun _ h9 => h9) rfl dX12_feed_106 ?_
  refine lv_iconst (v := 1) hx hb dX12_feed_109 (by decide) ?_
  refine lv_iadd hx hb dX12_feed_110 ?_
  refine q_topi (nI (n0 + 20)) (nI_add _ 1) ?_
  refine va_put (D := (dC, dI)) (ci := 12) (v := .int (nI (n0 + 20))) (ty := .int) (C := RX12) (T := TX12) (N := 81) hx hb hts (fun w h => mc (in_X12 w h)) tyX12 tyX12_ok nmX12 hown hK hP hD hS 0 rfl rfl 5 (by decide) (hts _ (mc m_257)) (fun _ h9 => h9) rfl (by decide +kernel) (by first | rfl | decide) (by first | rfl | decide) (Nat.le_of_ble_eq_true rfl) dX12_feed_111 (fun H locs hP hD hS => ?_)
  have hP : va_P (dC, dI) classes [(q0, .inr (12, [.ref q1, .int 0, .ref q2, .ref q3, .ref q4, .int (nI (n0 + 20)), .int x1, .int x2, .int x3, .int x4, .int x5, .int x6, .int x7, .int x8, .int x9, .int x10, .int x11, .int x12, .int x13, .int x14, .int x15, .ref q5, .ref q6, .ref q7, .ref q8, .ref q9, .ref q10, .ref q11, .ref q12, .int x16, .ref q13, .ref q14, .ref q15, .ref q16, .int x17, .ref q17, .ref q18, .ref q19, .ref q20, .ref q21, .ref q22, .ref q23, .ref q24, .ref q25, .ref q26, .ref q27, .ref q28, .int x18, .ref q29, .ref q30, .int x19, .ref q31, .ref q32, .ref q33, .ref q34, .ref q35, .int x20, .int x21, .int x22, .int x23, .int x24, .int x25, .int x26, .int x27, .int x28, .int x29, .int x30, .int x31, .int x32, .int x33, .ref q36, .ref q37, .ref q38, .ref q39, .ref q40, .int x34, .int x35, .ref q41, .ref q42, .int x36, .ref q43])), (q2, .inl (k0, 3000, .inl f160))] H := hP
  have hD : va_D A [(q0, .inr (12, [.ref q1, .int 0, .ref q2, .ref q3, .ref q4, .int (nI (n0 + 20)), .int x1, .int x2, .int x3, .int x4, .int x5, .int x6, .int x7, .int x8, .int x9, .int x10, .int x11, .int x12, .int x13, .int x14, .int x15, .ref q5, .ref q6, .ref q7, .ref q8, .ref q9, .ref q10, .ref q11, .ref q12, .int x16, .ref q13, .ref q14, .ref q15, .ref q16, .int x17, .ref q17, .ref q18, .ref q19, .ref q20, .ref q21, .ref q22, .ref q23, .ref q24, .ref q25, .ref q26, .ref q27, .ref q28, .int x18, .ref q29, .ref q30, .int x19, .ref q31, .ref q32, .ref q33, .ref q34, .ref q35, .int x20, .int x21, .int x22, .int x23, .int x24, .int x25, .int x26, .int x27, .int x28, .int x29, .int x30, .int x31, .int x32, .int x33, .ref q36, .ref q37, .ref q38, .ref q39, .ref q40, .int x34, .int x35, .ref q41, .ref q42, .int x36, .ref q43])), (q2, .inl (k0, 3000, .inl f160))] := hD
  refine lv_iinc (v := 20) (lv' := [(6, .int 20), (7, .int p4), (0, .ref q0), (1, .int p0), (2, .int p1), (3, .int p2), (4, .int p3), (5, .int p4)]) hx hb dX12_feed_114 hl (k := 1) rfl (by decide) (by decide) rfl (fun ls hl => ?_)
  refine lv_goto (tgt := 23) hx hb dX12_feed_117 (by decide) ?_
  refine lv_iload hx hb dX12_feed_23 (lv_at hl 0 rfl) ?_
  refine lv_bipush (v := 20) hx hb dX12_feed_25 (by decide) ?_
  refine lv_icmp_ge (tgt := 120) hx hb dX12_feed_27 (by decide) (fun _ => ?_) (fun c9 => absurd (by decide) c9)
  refine lv_aload_n hx hb dX12_feed_120 rfl (lv_at hl 2 rfl) ?_
  refine va_get (D := (dC, dI)) (ci := 12) (v := .int (nI (n0 + 20))) (C := RX12) (T := TX12) (N := 81) hx hb hts (fun w h => mc (in_X12 w h)) hown hK hP 0 rfl rfl 5 (by decide) (hts _ (mc m_257)) (fun _ h9 => h9) rfl dX12_feed_121 ?_
  exact W.iret (v := (nI (n0 + 20))) hx hb hr (fun t ht hW => ⟨⟨(nI (n0 + 20)), (), rfl, rfl, f160, by rw [ht]; exact hP, va_K.moved hW.alike hK, hD⟩, hS.F ht⟩) hS.2.2 dX12_feed_124
set_option maxHeartbeats 4000000 in
set_option maxRecDepth 100000 in
theorem c_X11_feed_1 (l : Launch) (dC : Nat → ClassId) (dI : Nat → Nat → Nat) (q0 : Nat) (p0 : Int32) (p1 : Int32) (p2 : Int32) (p3 : Int32) (p4 : Int32) (q1 : Nat) (n0 : Nat) (q2 : Nat) (q3 : Nat) (q4 : Nat) (x0 : Int32) (x1 : Int32) (x2 : Int32) (q5 : Nat) (q6 : Nat) (q7 : Nat) (q8 : Nat) (q9 : Nat) (q10 : Nat) (sz : Nat) (h2 : n0 ≤ 3000 ∧ 3000 < n0 + 20) : Met l yX11_feed (.code yX11_feed cX11_feed 6 (some .int) :: bigW) { frames := 0, cells := 0, slots := 0, locals := 0 } (va_Pc [.ref q0, .int p0, .int p1, .int p2, .int p3, .int p4] (q_In dC dI [(q0, .inr (11, [.ref q1, .int (nI n0), .ref q2, .ref q3, .ref q4, .int x0, .int x1, .int x2, .ref q5, .ref q6, .ref q7, .ref q8, .ref q9, .ref q10]))] [] sz)) (va_Qi (fun (r9 : Int32) (_ : Unit) => r9 = (-1)) (fun _ t => va_P (dC, dI) classes [(q0, .inr (11, [.ref q1, .int (nI n0), .ref q2, .ref q3, .ref q4, .int x0, .int x1, .int x2, .ref q5, .ref q6, .ref q7, .ref q8, .ref q9, .ref q10]))] t.heap ∧ va_K (dC, dI) classes [] t ∧ va_D (va_A [(q0, .inr (11, [.ref q1, .int (nI n0), .ref q2, .ref q3, .ref q4, .int x0, .int x1, .int x2, .ref q5, .ref q6, .ref q7, .ref q8, .ref q9, .ref q10]))] sz) [(q0, .inr (11, [.ref q1, .int (nI n0), .ref q2, .ref q3, .ref q4, .int x0, .int x1, .int x2, .ref q5, .ref q6, .ref q7, .ref q8, .ref q9, .ref q10]))]) (va_A [(q0, .inr (11, [.ref q1, .int (nI n0), .ref q2, .ref q3, .ref q4, .int x0, .int x1, .int x2, .ref q5, .ref q6, .ref q7, .ref q8, .ref q9, .ref q10]))] sz)) 0 0 (va_A [(q0, .inr (11, [.ref q1, .int (nI n0), .ref q2, .ref q3, .ref q4, .int x0, .int x1, .int x2, .ref q5, .ref q6, .ref q7, .ref q8, .ref q9, .ref q10]))] sz) := by
  refine Met.ofW (cc := cX11_feed) (maxL := 6) (ret := (some .int)) (by decide) rfl ?_
  intro p e s m args below meth c s₁ B hml hv
  obtain ⟨rfl, hsz, hP, hK, hD0, hE⟩ := hv
  have hx := B.exec
  have hb := B.bytes
  have hr := B.returns
  have hts := atoms_spec (ws := .code yX11_feed cX11_feed 6 (some .int) :: bigW) B.pre
  have hown : s.vm.findClass RX11 = some m.cls := findClass_of_methodNamed B.named
  have hlocks := B.notSynchronized
  subst hsz
  have hD := hD0.self (sz := s.heap.size)
  generalize hAe : va_A [(q0, .inr (11, [.ref q1, .int (nI n0), .ref q2, .ref q3, .ref q4, .int x0, .int x1, .int x2, .ref q5, .ref q6, .ref q7, .ref q8, .ref q9, .ref q10]))] s.heap.size = A at hD hE ⊢
  have hN : q_N s := hE.2.2.2.1
  have hA : ∀ q : Nat, s.heap.size ≤ q → A q := fun q h => by rw [← hAe]; exact Or.inr h
  have hS : va_S A s.heap s.heap [] := va_S.rf
  have hP : va_P (dC, dI) classes [(q0, .inr (11, [.ref q1, .int (nI n0), .ref q2, .ref q3, .ref q4, .int x0, .int x1, .int x2, .ref q5, .ref q6, .ref q7, .ref q8, .ref q9, .ref q10]))] s.heap := hP
  have hl := lv_entry ([.ref q0, .int p0, .int p1, .int p2, .int p3, .int p4]) (n := 6) (Nat.le_of_ble_eq_true rfl)
  rw [lg_entry_eq]
  generalize (lg_sl ([.ref q0, .int p0, .int p1, .int p2, .int p3, .int p4]) ++ List.replicate (6 - (lg_sl ([.ref q0, .int p0, .int p1, .int p2, .int p3, .int p4])).length) Slot.unset).toArray = ls at hl ⊢
  have hl : lv_has ls 6 [(0, .ref q0), (1, .int p0), (2, .int p1), (3, .int p2), (4, .int p3), (5, .int p4)] := hl
  refine lv_aload_n hx hb dX11_feed_0 rfl (lv_at hl 0 rfl) ?_
  refine va_get (D := (dC, dI)) (ci := 11) (v := .int (nI n0)) (C := RX11) (T := TX11) (N := 14) hx hb hts (fun w h => mc (in_X11 w h)) hown hK hP 0 rfl rfl 1 (by decide) (hts _ (mc m_5)) (fun _ h9 => h9) rfl dX11_feed_1 ?_
  refine lv_bipush (v := 20) hx hb dX11_feed_4 (by decide) ?_
  refine lv_iadd hx hb dX11_feed_6 ?_
  refine q_topi (nI (n0 + 20)) (nI_add _ 20) ?_
  refine lv_sipush (v := 3000) hx hb dX11_feed_7 (by decide) ?_
  refine lv_icmp_le (tgt := 15) hx hb dX11_feed_10 (by decide) (fun c9 => absurd c9 (nI_ge (a := 3000) (by omega) (by omega))) (fun _ => ?_)
  refine lv_iconst (v := (-1)) hx hb dX11_feed_13 (by decide) ?_
  exact W.iret (v := (-1)) hx hb hr (fun t ht hW => ⟨⟨(-1), (), rfl, rfl, by rw [ht]; exact hP, va_K.moved hW.alike hK, hD⟩, hS.F ht⟩) hS.2.2 dX11_feed_14
set_option maxHeartbeats 4000000 in
set_option maxRecDepth 100000 in
theorem c_X12_feed_1 (l : Launch) (dC : Nat → ClassId) (dI : Nat → Nat → Nat) (q0 : Nat) (p0 : Int32) (p1 : Int32) (p2 : Int32) (p3 : Int32) (p4 : Int32) (q1 : Nat) (x0 : Int32) (q2 : Nat) (q3 : Nat) (q4 : Nat) (n0 : Nat) (x1 : Int32) (x2 : Int32) (x3 : Int32) (x4 : Int32) (x5 : Int32) (x6 : Int32) (x7 : Int32) (x8 : Int32) (x9 : Int32) (x10 : Int32) (x11 : Int32) (x12 : Int32) (x13 : Int32) (x14 : Int32) (x15 : Int32) (q5 : Nat) (q6 : Nat) (q7 : Nat) (q8 : Nat) (q9 : Nat) (q10 : Nat) (q11 : Nat) (q12 : Nat) (x16 : Int32) (q13 : Nat) (q14 : Nat) (q15 : Nat) (q16 : Nat) (x17 : Int32) (q17 : Nat) (q18 : Nat) (q19 : Nat) (q20 : Nat) (q21 : Nat) (q22 : Nat) (q23 : Nat) (q24 : Nat) (q25 : Nat) (q26 : Nat) (q27 : Nat) (q28 : Nat) (x18 : Int32) (q29 : Nat) (q30 : Nat) (x19 : Int32) (q31 : Nat) (q32 : Nat) (q33 : Nat) (q34 : Nat) (q35 : Nat) (x20 : Int32) (x21 : Int32) (x22 : Int32) (x23 : Int32) (x24 : Int32) (x25 : Int32) (x26 : Int32) (x27 : Int32) (x28 : Int32) (x29 : Int32) (x30 : Int32) (x31 : Int32) (x32 : Int32) (x33 : Int32) (q36 : Nat) (q37 : Nat) (q38 : Nat) (q39 : Nat) (q40 : Nat) (x34 : Int32) (x35 : Int32) (q41 : Nat) (q42 : Nat) (x36 : Int32) (q43 : Nat) (sz : Nat) (h2 : n0 ≤ 3000 ∧ 3000 < n0 + 20) : Met l yX12_feed (.code yX12_feed cX12_feed 8 (some .int) :: bigW) { frames := 0, cells := 0, slots := 0, locals := 0 } (va_Pc [.ref q0, .int p0, .int p1, .int p2, .int p3, .int p4] (q_In dC dI [(q0, .inr (12, [.ref q1, .int x0, .ref q2, .ref q3, .ref q4, .int (nI n0), .int x1, .int x2, .int x3, .int x4, .int x5, .int x6, .int x7, .int x8, .int x9, .int x10, .int x11, .int x12, .int x13, .int x14, .int x15, .ref q5, .ref q6, .ref q7, .ref q8, .ref q9, .ref q10, .ref q11, .ref q12, .int x16, .ref q13, .ref q14, .ref q15, .ref q16, .int x17, .ref q17, .ref q18, .ref q19, .ref q20, .ref q21, .ref q22, .ref q23, .ref q24, .ref q25, .ref q26, .ref q27, .ref q28, .int x18, .ref q29, .ref q30, .int x19, .ref q31, .ref q32, .ref q33, .ref q34, .ref q35, .int x20, .int x21, .int x22, .int x23, .int x24, .int x25, .int x26, .int x27, .int x28, .int x29, .int x30, .int x31, .int x32, .int x33, .ref q36, .ref q37, .ref q38, .ref q39, .ref q40, .int x34, .int x35, .ref q41, .ref q42, .int x36, .ref q43]))] [] sz)) (va_Qi (fun (r9 : Int32) (_ : Unit) => r9 = (-1)) (fun _ t => va_P (dC, dI) classes [(q0, .inr (12, [.ref q1, .int 0, .ref q2, .ref q3, .ref q4, .int (nI n0), .int x1, .int x2, .int x3, .int x4, .int x5, .int x6, .int x7, .int x8, .int x9, .int x10, .int x11, .int x12, .int x13, .int x14, .int x15, .ref q5, .ref q6, .ref q7, .ref q8, .ref q9, .ref q10, .ref q11, .ref q12, .int x16, .ref q13, .ref q14, .ref q15, .ref q16, .int x17, .ref q17, .ref q18, .ref q19, .ref q20, .ref q21, .ref q22, .ref q23, .ref q24, .ref q25, .ref q26, .ref q27, .ref q28, .int x18, .ref q29, .ref q30, .int x19, .ref q31, .ref q32, .ref q33, .ref q34, .ref q35, .int x20, .int x21, .int x22, .int x23, .int x24, .int x25, .int x26, .int x27, .int x28, .int x29, .int x30, .int x31, .int x32, .int x33, .ref q36, .ref q37, .ref q38, .ref q39, .ref q40, .int x34, .int x35, .ref q41, .ref q42, .int x36, .ref q43]))] t.heap ∧ va_K (dC, dI) classes [] t ∧ va_D (va_A [(q0, .inr (12, [.ref q1, .int x0, .ref q2, .ref q3, .ref q4, .int (nI n0), .int x1, .int x2, .int x3, .int x4, .int x5, .int x6, .int x7, .int x8, .int x9, .int x10, .int x11, .int x12, .int x13, .int x14, .int x15, .ref q5, .ref q6, .ref q7, .ref q8, .ref q9, .ref q10, .ref q11, .ref q12, .int x16, .ref q13, .ref q14, .ref q15, .ref q16, .int x17, .ref q17, .ref q18, .ref q19, .ref q20, .ref q21, .ref q22, .ref q23, .ref q24, .ref q25, .ref q26, .ref q27, .ref q28, .int x18, .ref q29, .ref q30, .int x19, .ref q31, .ref q32, .ref q33, .ref q34, .ref q35, .int x20, .int x21, .int x22, .int x23, .int x24, .int x25, .int x26, .int x27, .int x28, .int x29, .int x30, .int x31, .int x32, .int x33, .ref q36, .ref q37, .ref q38, .ref q39, .ref q40, .int x34, .int x35, .ref q41, .ref q42, .int x36, .ref q43]))] sz) [(q0, .inr (12, [.ref q1, .int 0, .ref q2, .ref q3, .ref q4, .int (nI n0), .int x1, .int x2, .int x3, .int x4, .int x5, .int x6, .int x7, .int x8, .int x9, .int x10, .int x11, .int x12, .int x13, .int x14, .int x15, .ref q5, .ref q6, .ref q7, .ref q8, .ref q9, .ref q10, .ref q11, .ref q12, .int x16, .ref q13, .ref q14, .ref q15, .ref q16, .int x17, .ref q17, .ref q18, .ref q19, .ref q20, .ref q21, .ref q22, .ref q23, .ref q24, .ref q25, .ref q26, .ref q27, .ref q28, .int x18, .ref q29, .ref q30, .int x19, .ref q31, .ref q32, .ref q33, .ref q34, .ref q35, .int x20, .int x21, .int x22, .int x23, .int x24, .int x25, .int x26, .int x27, .int x28, .int x29, .int x30, .int x31, .int x32, .int x33, .ref q36, .ref q37, .ref q38, .ref q39, .ref q40, .int x34, .int x35, .ref q41, .ref q42, .int x36, .ref q43]))]) (va_A [(q0, .inr (12, [.ref q1, .int x0, .ref q2, .ref q3, .ref q4, .int (nI n0), .int x1, .int x2, .int x3, .int x4, .int x5, .int x6, .int x7, .int x8, .int x9, .int x10, .int x11, .int x12, .int x13, .int x14, .int x15, .ref q5, .ref q6, .ref q7, .ref q8, .ref q9, .ref q10, .ref q11, .ref q12, .int x16, .ref q13, .ref q14, .ref q15, .ref q16, .int x17, .ref q17, .ref q18, .ref q19, .ref q20, .ref q21, .ref q22, .ref q23, .ref q24, .ref q25, .ref q26, .ref q27, .ref q28, .int x18, .ref q29, .ref q30, .int x19, .ref q31, .ref q32, .ref q33, .ref q34, .ref q35, .int x20, .int x21, .int x22, .int x23, .int x24, .int x25, .int x26, .int x27, .int x28, .int x29, .int x30, .int x31, .int x32, .int x33, .ref q36, .ref q37, .ref q38, .ref q39, .ref q40, .int x34, .int x35, .ref q41, .ref q42, .int x36, .ref q43]))] sz)) 0 0 (va_A [(q0, .inr (12, [.ref q1, .int x0, .ref q2, .ref q3, .ref q4, .int (nI n0), .int x1, .int x2, .int x3, .int x4, .int x5, .int x6, .int x7, .int x8, .int x9, .int x10, .int x11, .int x12, .int x13, .int x14, .int x15, .ref q5, .ref q6, .ref q7, .ref q8, .ref q9, .ref q10, .ref q11, .ref q12, .int x16, .ref q13, .ref q14, .ref q15, .ref q16, .int x17, .ref q17, .ref q18, .ref q19, .ref q20, .ref q21, .ref q22, .ref q23, .ref q24, .ref q25, .ref q26, .ref q27, .ref q28, .int x18, .ref q29, .ref q30, .int x19, .ref q31, .ref q32, .ref q33, .ref q34, .ref q35, .int x20, .int x21, .int x22, .int x23, .int x24, .int x25, .int x26, .int x27, .int x28, .int x29, .int x30, .int x31, .int x32, .int x33, .ref q36, .ref q37, .ref q38, .ref q39, .ref q40, .int x34, .int x35, .ref q41, .ref q42, .int x36, .ref q43]))] sz) := by
  refine Met.ofW (cc := cX12_feed) (maxL := 8) (ret := (some .int)) (by decide) rfl ?_
  intro p e s m args below meth c s₁ B hml hv
  obtain ⟨rfl, hsz, hP, hK, hD0, hE⟩ := hv
  have hx := B.exec
  have hb := B.bytes
  have hr := B.returns
  have hts := atoms_spec (ws := .code yX12_feed cX12_feed 8 (some .int) :: bigW) B.pre
  have hown : s.vm.findClass RX12 = some m.cls := findClass_of_methodNamed B.named
  have hlocks := B.notSynchronized
  subst hsz
  have hD := hD0.self (sz := s.heap.size)
  generalize hAe : va_A [(q0, .inr (12, [.ref q1, .int x0, .ref q2, .ref q3, .ref q4, .int (nI n0), .int x1, .int x2, .int x3, .int x4, .int x5, .int x6, .int x7, .int x8, .int x9, .int x10, .int x11, .int x12, .int x13, .int x14, .int x15, .ref q5, .ref q6, .ref q7, .ref q8, .ref q9, .ref q10, .ref q11, .ref q12, .int x16, .ref q13, .ref q14, .ref q15, .ref q16, .int x17, .ref q17, .ref q18, .ref q19, .ref q20, .ref q21, .ref q22, .ref q23, .ref q24, .ref q25, .ref q26, .ref q27, .ref q28, .int x18, .ref q29, .ref q30, .int x19, .ref q31, .ref q32, .ref q33, .ref q34, .ref q35, .int x20, .int x21, .int x22, .int x23, .int x24, .int x25, .int x26, .int x27, .int x28, .int x29, .int x30, .int x31, .int x32, .int x33, .ref q36, .ref q37, .ref q38, .ref q39, .ref q40, .int x34, .int x35, .ref q41, .ref q42, .int x36, .ref q43]))] s.heap.size = A at hD hE ⊢
  have hN : q_N s := hE.2.2.2.1
  have hA : ∀ q : Nat, s.heap.size ≤ q → A q := fun q h => by rw [← hAe]; exact Or.inr h
  have hS : va_S A s.heap s.heap [] := va_S.rf
  have hP : va_P (dC, dI) classes [(q0, .inr (12, [.ref q1, .int x0, .ref q2, .ref q3, .ref q4, .int (nI n0), .int x1, .int x2, .int x3, .int x4, .int x5, .int x6, .int x7, .int x8, .int x9, .int x10, .int x11, .int x12, .int x13, .int x14, .int x15, .ref q5, .ref q6, .ref q7, .ref q8, .ref q9, .ref q10, .ref q11, .ref q12, .int x16, .ref q13, .ref q14, .ref q15, .ref q16, .int x17, .ref q17, .ref q18, .ref q19, .ref q20, .ref q21, .ref q22, .ref q23, .ref q24, .ref q25, .ref q26, .ref q27, .ref q28, .int x18, .ref q29, .ref q30, .int x19, .ref q31, .ref q32, .ref q33, .ref q34, .ref q35, .int x20, .int x21, .int x22, .int x23, .int x24, .int x25, .int x26, .int x27, .int x28, .int x29, .int x30, .int x31, .int x32, .int x33, .ref q36, .ref q37, .ref q38, .ref q39, .ref q40, .int x34, .int x35, .ref q41, .ref q42, .int x36, .ref q43]))] s.heap := hP
  have hl := lv_entry ([.ref q0, .int p0, .int p1, .int p2, .int p3, .int p4]) (n := 8) (Nat.le_of_ble_eq_true rfl)
  rw [lg_entry_eq]
  generalize (lg_sl ([.ref q0, .int p0, .int p1, .int p2, .int p3, .int p4]) ++ List.replicate (8 - (lg_sl ([.ref q0, .int p0, .int p1, .int p2, .int p3, .int p4])).length) Slot.unset).toArray = ls at hl ⊢
  have hl : lv_has ls 8 [(0, .ref q0), (1, .int p0), (2, .int p1), (3, .int p2), (4, .int p3), (5, .int p4)] := hl
  refine lv_aload_n hx hb dX12_feed_0 rfl (lv_at hl 0 rfl) ?_
  refine lv_iconst (v := 0) hx hb dX12_feed_1 (by decide) ?_
  refine va_put (D := (dC, dI)) (ci := 12) (v := .int 0) (ty := .int) (C := RX12) (T := TX12) (N := 81) hx hb hts (fun w h => mc (in_X12 w h)) tyX12 tyX12_ok nmX12 hown hK hP hD hS 0 rfl rfl 1 (by decide) (hts _ (mc m_256)) (fun _ h9 => h9) rfl (by decide +kernel) (by first | rfl | decide) (by first | rfl | decide) (Nat.le_of_ble_eq_true rfl) dX12_feed_2 (fun H locs hP hD hS => ?_)
  have hP : va_P (dC, dI) classes [(q0, .inr (12, [.ref q1, .int 0, .ref q2, .ref q3, .ref q4, .int (nI n0), .int x1, .int x2, .int x3, .int x4, .int x5, .int x6, .int x7, .int x8, .int x9, .int x10, .int x11, .int x12, .int x13, .int x14, .int x15, .ref q5, .ref q6, .ref q7, .ref q8, .ref q9, .ref q10, .ref q11, .ref q12, .int x16, .ref q13, .ref q14, .ref q15, .ref q16, .int x17, .ref q17, .ref q18, .ref q19, .ref q20, .ref q21, .ref q22, .ref q23, .ref q24, .ref q25, .ref q26, .ref q27, .ref q28, .int x18, .ref q29, .ref q30, .int x19, .ref q31, .ref q32, .ref q33, .ref q34, .ref q35, .int x20, .int x21, .int x22, .int x23, .int x24, .int x25, .int x26, .int x27, .int x28, .int x29, .int x30, .int x31, .int x32, .int x33, .ref q36, .ref q37, .ref q38, .ref q39, .ref q40, .int x34, .int x35, .ref q41, .ref q42, .int x36, .ref q43]))] H := hP
  have hD : va_D A [(q0, .inr (12, [.ref q1, .int 0, .ref q2, .ref q3, .ref q4, .int (nI n0), .int x1, .int x2, .int x3, .int x4, .int x5, .int x6, .int x7, .int x8, .int x9, .int x10, .int x11, .int x12, .int x13, .int x14, .int x15, .ref q5, .ref q6, .ref q7, .ref q8, .ref q9, .ref q10, .ref q11, .ref q12, .int x16, .ref q13, .ref q14, .ref q15, .ref q16, .int x17, .ref q17, .ref q18, .ref q19, .ref q20, .ref q21, .ref q22, .ref q23, .ref q24, .ref q25, .ref q26, .ref q27, .ref q28, .int x18, .ref q29, .ref q30, .int x19, .ref q31, .ref q32, .ref q33, .ref q34, .ref q35, .int x20, .int x21, .int x22, .int x23, .int x24, .int x25, .int x26, .int x27, .int x28, .int x29, .int x30, .int x31, .int x32, .int x33, .ref q36, .ref q37, .ref q38, .ref q39, .ref q40, .int x34, .int x35, .ref q41, .ref q42, .int x36, .ref q43]))] := hD
  refine lv_aload_n hx hb dX12_feed_5 rfl (lv_at hl 0 rfl) ?_
  refine va_get (D := (dC, dI)) (ci := 12) (v := .int (nI n0)) (C := RX12) (T := TX12) (N := 81) hx hb hts (fun w h => mc (in_X12 w h)) hown hK hP 0 rfl rfl 5 (by decide) (hts _ (mc m_257)) (fun _ h9 => h9) rfl dX12_feed_6 ?_
  refine lv_bipush (v := 20) hx hb dX12_feed_9 (by decide) ?_
  refine lv_iadd hx hb dX12_feed_11 ?_
  refine q_topi (nI (n0 + 20)) (nI_add _ 20) ?_
  refine lv_sipush (v := 3000) hx hb dX12_feed_12 (by decide) ?_
  refine lv_icmp_le (tgt := 20) hx hb dX12_feed_15 (by decide) (fun c9 => absurd c9 (nI_ge (a := 3000) (by omega) (by omega))) (fun _ => ?_)
  refine lv_iconst (v := (-1)) hx hb dX12_feed_18 (by decide) ?_
  exact W.iret (v := (-1)) hx hb hr (fun t ht hW => ⟨⟨(-1), (), rfl, rfl, by rw [ht]; exact hP, va_K.moved hW.alike hK, hD⟩, hS.F ht⟩) hS.2.2 dX12_feed_19
