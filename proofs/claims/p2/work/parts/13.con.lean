set_option maxHeartbeats 4000000 in
set_option maxRecDepth 100000 in
theorem c_X11_feedNumber_0 (l : Launch) (dC : Nat → ClassId) (dI : Nat → Nat → Nat) (q0 : Nat) (p0 : Int32) (q1 : Nat) (n0 : Nat) (q2 : Nat) (q3 : Nat) (q4 : Nat) (x0 : Int32) (x1 : Int32) (x2 : Int32) (q5 : Nat) (q6 : Nat) (q7 : Nat) (q8 : Nat) (q9 : Nat) (q10 : Nat) (k0 : ClassId) (f0 : Nat → Int32) (sz : Nat) (h1 : n0 + 20 ≤ 3000) : Met l yX11_feedNumber (.code yX11_feedNumber cX11_feedNumber 3 none :: bigW) { frames := 0, cells := 0, slots := 0, locals := 0 } (va_Pc [.ref q0, .int p0] (q_In dC dI [(q0, .inr (11, [.ref q1, .int (nI n0), .ref q2, .ref q3, .ref q4, .int x0, .int x1, .int x2, .ref q5, .ref q6, .ref q7, .ref q8, .ref q9, .ref q10])), (q1, .inl (k0, 3000, .inl f0))] [(k0, .byte)] sz)) (va_Qv (fun _ : Unit => True) (fun _ t => ∃ (f112 : Nat → Int32), va_P (dC, dI) classes [(q0, .inr (11, [.ref q1, .int (nI (n0 + 4)), .ref q2, .ref q3, .ref q4, .int x0, .int x1, .int x2, .ref q5, .ref q6, .ref q7, .ref q8, .ref q9, .ref q10])), (q1, .inl (k0, 3000, .inl f112))] t.heap ∧ va_K (dC, dI) classes [(k0, .byte)] t ∧ va_D (va_A [(q0, .inr (11, [.ref q1, .int (nI n0), .ref q2, .ref q3, .ref q4, .int x0, .int x1, .int x2, .ref q5, .ref q6, .ref q7, .ref q8, .ref q9, .ref q10])), (q1, .inl (k0, 3000, .inl f0))] sz) [(q0, .inr (11, [.ref q1, .int (nI (n0 + 4)), .ref q2, .ref q3, .ref q4, .int x0, .int x1, .int x2, .ref q5, .ref q6, .ref q7, .ref q8, .ref q9, .ref q10])), (q1, .inl (k0, 3000, .inl f112))]) (va_A [(q0, .inr (11, [.ref q1, .int (nI n0), .ref q2, .ref q3, .ref q4, .int x0, .int x1, .int x2, .ref q5, .ref q6, .ref q7, .ref q8, .ref q9, .ref q10])), (q1, .inl (k0, 3000, .inl f0))] sz)) 0 0 (va_A [(q0, .inr (11, [.ref q1, .int (nI n0), .ref q2, .ref q3, .ref q4, .int x0, .int x1, .int x2, .ref q5, .ref q6, .ref q7, .ref q8, .ref q9, .ref q10])), (q1, .inl (k0, 3000, .inl f0))] sz) := by
  refine Met.ofW (cc := cX11_feedNumber) (maxL := 3) (ret := none) (by decide) rfl ?_
  intro p e s m args below meth c s₁ B hml hv
  obtain ⟨rfl, hsz, hP, hK, hD0, hE⟩ := hv
  have hx := B.exec
  have hb := B.bytes
  have hr := B.returns
  have hts := atoms_spec (ws := .code yX11_feedNumber cX11_feedNumber 3 none :: bigW) B.pre
  have hown : s.vm.findClass RX11 = some m.cls := findClass_of_methodNamed B.named
  have hlocks := B.notSynchronized
  subst hsz
  have hD := hD0.self (sz := s.heap.size)
  generalize hAe : va_A [(q0, .inr (11, [.ref q1, .int (nI n0), .ref q2, .ref q3, .ref q4, .int x0, .int x1, .int x2, .ref q5, .ref q6, .ref q7, .ref q8, .ref q9, .ref q10])), (q1, .inl (k0, 3000, .inl f0))] s.heap.size = A at hD hE ⊢
  have hN : q_N s := hE.2.2.2.1
  have hA : ∀ q : Nat, s.heap.size ≤ q → A q := fun q h => by rw [← hAe]; exact Or.inr h
  have hS : va_S A s.heap s.heap [] := va_S.rf
  have hP : va_P (dC, dI) classes [(q0, .inr (11, [.ref q1, .int (nI n0), .ref q2, .ref q3, .ref q4, .int x0, .int x1, .int x2, .ref q5, .ref q6, .ref q7, .ref q8, .ref q9, .ref q10])), (q1, .inl (k0, 3000, .inl f0))] s.heap := hP
  have hl := lv_entry ([.ref q0, .int p0]) (n := 3) (Nat.le_of_ble_eq_true rfl)
  rw [lg_entry_eq]
  generalize (lg_sl ([.ref q0, .int p0]) ++ List.replicate (3 - (lg_sl ([.ref q0, .int p0])).length) Slot.unset).toArray = ls at hl ⊢
  have hl : lv_has ls 3 [(0, .ref q0), (1, .int p0)] := hl
  refine lv_bipush (v := 24) hx hb dX11_feedNumber_0 (by decide) ?_
  refine lv_istore_n (lv' := [(2, .int 24), (0, .ref q0), (1, .int p0)]) hx hb dX11_feedNumber_2 rfl hl (by decide) rfl (fun ls hl => ?_)
  refine lv_iload_n hx hb dX11_feedNumber_3 rfl (lv_at hl 0 rfl) ?_
  refine lv_if_lt (tgt := 48) hx hb dX11_feedNumber_4 (by decide) (fun c9 => absurd c9 (by decide)) (fun _ => ?_)
  refine lv_aload_n hx hb dX11_feedNumber_7 rfl (lv_at hl 1 rfl) ?_
  refine va_get (D := (dC, dI)) (ci := 11) (v := .int (nI n0)) (C := RX11) (T := TX11) (N := 14) hx hb hts (fun w h => mc (in_X11 w h)) hown hK hP 0 rfl rfl 1 (by decide) (hts _ (mc m_5)) (fun _ h9 => h9) rfl dX11_feedNumber_8 ?_
  refine lv_aload_n hx hb dX11_feedNumber_11 rfl (lv_at hl 1 rfl) ?_
  refine va_get (D := (dC, dI)) (ci := 11) (v := .ref q1) (C := RX11) (T := TX11) (N := 14) hx hb hts (fun w h => mc (in_X11 w h)) hown hK hP 0 rfl rfl 0 (by decide) (hts _ (mc m_4)) (fun _ h9 => h9) rfl dX11_feedNumber_12 ?_
  refine va_alen (v := 3000) hx hb hK hP 1 0 rfl rfl (by first | rfl | decide) dX11_feedNumber_15 ?_
  refine lv_icmp_ge (tgt := 42) hx hb dX11_feedNumber_16 (by decide) (fun c9 => absurd c9 (nI_ge (b := 3000) (by omega) (by decide))) (fun _ => ?_)
  refine lv_aload_n hx hb dX11_feedNumber_19 rfl (lv_at hl 1 rfl) ?_
  refine va_get (D := (dC, dI)) (ci := 11) (v := .ref q1) (C := RX11) (T := TX11) (N := 14) hx hb hts (fun w h => mc (in_X11 w h)) hown hK hP 0 rfl rfl 0 (by decide) (hts _ (mc m_4)) (fun _ h9 => h9) rfl dX11_feedNumber_20 ?_
  refine lv_aload_n hx hb dX11_feedNumber_23 rfl (lv_at hl 1 rfl) ?_
  refine va_get (D := (dC, dI)) (ci := 11) (v := .int (nI n0)) (C := RX11) (T := TX11) (N := 14) hx hb hts (fun w h => mc (in_X11 w h)) hown hK hP 0 rfl rfl 1 (by decide) (hts _ (mc m_5)) (fun _ h9 => h9) rfl dX11_feedNumber_24 ?_
  refine lv_iload_n hx hb dX11_feedNumber_27 rfl (lv_at hl 2 rfl) ?_
  refine lv_iload_n hx hb dX11_feedNumber_28 rfl (lv_at hl 0 rfl) ?_
  refine lv_ishr hx hb dX11_feedNumber_29 ?_
  refine lv_topi (fun x101 ex101 => ?_)
  refine lv_i2b hx hb dX11_feedNumber_30 rfl ?_
  refine lv_topi (fun x102 ex102 => ?_)
  refine va_bast hx hb hK hP hD hS 1 0 rfl rfl (vp_in_nI (by omega) (by decide)) dX11_feedNumber_31 (fun H locs hP hD hS => ?_)
  have hP : va_P (dC, dI) classes [(q0, .inr (11, [.ref q1, .int (nI n0), .ref q2, .ref q3, .ref q4, .int x0, .int x1, .int x2, .ref q5, .ref q6, .ref q7, .ref q8, .ref q9, .ref q10])), (q1, .inl (k0, 3000, .inl (upd f0 (Int32.toNatClampNeg (nI n0)) (vp_nar .byte x102))))] H := hP
  have hD : va_D A [(q0, .inr (11, [.ref q1, .int (nI n0), .ref q2, .ref q3, .ref q4, .int x0, .int x1, .int x2, .ref q5, .ref q6, .ref q7, .ref q8, .ref q9, .ref q10])), (q1, .inl (k0, 3000, .inl (upd f0 (Int32.toNatClampNeg (nI n0)) (vp_nar .byte x102))))] := hD
  obtain ⟨f103, ef103⟩ : ∃ z : Nat → Int32, z = (upd f0 (Int32.toNatClampNeg (nI n0)) (vp_nar .byte x102)) := ⟨_, rfl⟩
  rw [← ef103] at hP hD
  have hP : va_P (dC, dI) classes [(q0, .inr (11, [.ref q1, .int (nI n0), .ref q2, .ref q3, .ref q4, .int x0, .int x1, .int x2, .ref q5, .ref q6, .ref q7, .ref q8, .ref q9, .ref q10])), (q1, .inl (k0, 3000, .inl f103))] H := hP
  have hD : va_D A [(q0, .inr (11, [.ref q1, .int (nI n0), .ref q2, .ref q3, .ref q4, .int x0, .int x1, .int x2, .ref q5, .ref q6, .ref q7, .ref q8, .ref q9, .ref q10])), (q1, .inl (k0, 3000, .inl f103))] := hD
  refine lv_aload_n hx hb dX11_feedNumber_32 rfl (lv_at hl 1 rfl) ?_
  refine lv_dup hx hb dX11_feedNumber_33 rfl ?_
  refine va_get (D := (dC, dI)) (ci := 11) (v := .int (nI n0)) (C := RX11) (T := TX11) (N := 14) hx hb hts (fun w h => mc (in_X11 w h)) hown hK hP 0 rfl rfl 1 (by decide) (hts _ (mc m_5)) (fun _ h9 => h9) rfl dX11_feedNumber_34 ?_
  refine lv_iconst (v := 1) hx hb dX11_feedNumber_37 (by decide) ?_
  refine lv_iadd hx hb dX11_feedNumber_38 ?_
  refine q_topi (nI (n0 + 1)) (nI_add _ 1) ?_
  refine va_put (D := (dC, dI)) (ci := 11) (v := .int (nI (n0 + 1))) (ty := .int) (C := RX11) (T := TX11) (N := 14) hx hb hts (fun w h => mc (in_X11 w h)) tyX11 tyX11_ok nmX11 hown hK hP hD hS 0 rfl rfl 1 (by decide) (hts _ (mc m_5)) (fun _ h9 => h9) rfl (by decide +kernel) (by first | rfl | decide) (by first | rfl | decide) (Nat.le_of_ble_eq_true rfl) dX11_feedNumber_39 (fun H locs hP hD hS => ?_)
  have hP : va_P (dC, dI) classes [(q0, .inr (11, [.ref q1, .int (nI (n0 + 1)), .ref q2, .ref q3, .ref q4, .int x0, .int x1, .int x2, .ref q5, .ref q6, .ref q7, .ref q8, .ref q9, .ref q10])), (q1, .inl (k0, 3000, .inl f103))] H := hP
  have hD : va_D A [(q0, .inr (11, [.ref q1, .int (nI (n0 + 1)), .ref q2, .ref q3, .ref q4, .int x0, .int x1, .int x2, .ref q5, .ref q6, .ref q7, .ref q8, .ref q9, .ref q10])), (q1, .inl (k0, 3000, .inl f103))] := hD
  refine lv_iinc (v := 16) (lv' := [(2, .int 16), (0, .ref q0), (1, .int p0)]) hx hb dX11_feedNumber_42 hl (k := 0) rfl (by decide) (by decide) rfl (fun ls hl => ?_)
  refine lv_goto (tgt := 3) hx hb dX11_feedNumber_45 (by decide) ?_
  refine lv_iload_n hx hb dX11_feedNumber_3 rfl (lv_at hl 0 rfl) ?_
  refine lv_if_lt (tgt := 48) hx hb dX11_feedNumber_4 (by decide) (fun c9 => absurd c9 (by decide)) (fun _ => ?_)
  refine lv_aload_n hx hb dX11_feedNumber_7 rfl (lv_at hl 1 rfl) ?_
  refine va_get (D := (dC, dI)) (ci := 11) (v := .int (nI (n0 + 1))) (C := RX11) (T := TX11) (N := 14) hx hb hts (fun w h => mc (in_X11 w h)) hown hK hP 0 rfl rfl 1 (by decide) (hts _ (mc m_5)) (fun _ h9 => h9) rfl dX11_feedNumber_8 ?_
  refine lv_aload_n hx hb dX11_feedNumber_11 rfl (lv_at hl 1 rfl) ?_
  refine va_get (D := (dC, dI)) (ci := 11) (v := .ref q1) (C := RX11) (T := TX11) (N := 14) hx hb hts (fun w h => mc (in_X11 w h)) hown hK hP 0 rfl rfl 0 (by decide) (hts _ (mc m_4)) (fun _ h9 => h9) rfl dX11_feedNumber_12 ?_
  refine va_alen (v := 3000) hx hb hK hP 1 0 rfl rfl (by first | rfl | decide) dX11_feedNumber_15 ?_
  refine lv_icmp_ge (tgt := 42) hx hb dX11_feedNumber_16 (by decide) (fun c9 => absurd c9 (nI_ge (b := 3000) (by omega) (by decide))) (fun _ => ?_)
  refine lv_aload_n hx hb dX11_feedNumber_19 rfl (lv_at hl 1 rfl) ?_
  refine va_get (D := (dC, dI)) (ci := 11) (v := .ref q1) (C := RX11) (T := TX11) (N := 14) hx hb hts (fun w h => mc (in_X11 w h)) hown hK hP 0 rfl rfl 0 (by decide) (hts _ (mc m_4)) (fun _ h9 => h9) rfl dX11_feedNumber_20 ?_
  refine lv_aload_n hx hb dX11_feedNumber_23 rfl (lv_at hl 1 rfl) ?_
  refine va_get (D := (dC, dI)) (ci := 11) (v := .int (nI (n0 + 1))) (C := RX11) (T := TX11) (N := 14) hx hb hts (fun w h => mc (in_X11 w h)) hown hK hP 0 rfl rfl 1 (by decide) (hts _ (mc m_5)) (fun _ h9 => h9) rfl dX11_feedNumber_24 ?_
  refine lv_iload_n hx hb dX11_feedNumber_27 rfl (lv_at hl 2 rfl) ?_
  refine lv_iload_n hx hb dX11_feedNumber_28 rfl (lv_at hl 0 rfl) ?_
  refine lv_ishr hx hb dX11_feedNumber_29 ?_
  refine lv_topi (fun x104 ex104 => ?_)
  refine lv_i2b hx hb dX11_feedNumber_30 rfl ?_
  refine lv_topi (fun x105 ex105 => ?_)
  refine va_bast hx hb hK hP hD hS 1 0 rfl rfl (vp_in_nI (by omega) (by decide)) dX11_feedNumber_31 (fun H locs hP hD hS => ?_)
  have hP : va_P (dC, dI) classes [(q0, .inr (11, [.ref q1, .int (nI (n0 + 1)), .ref q2, .ref q3, .ref q4, .int x0, .int x1, .int x2, .ref q5, .ref q6, .ref q7, .ref q8, .ref q9, .ref q10])), (q1, .inl (k0, 3000, .inl (upd f103 (Int32.toNatClampNeg (nI (n0 + 1))) (vp_nar .byte x105))))] H := hP
  have hD : va_D A [(q0, .inr (11, [.ref q1, .int (nI (n0 + 1)), .ref q2, .ref q3, .ref q4, .int x0, .int x1, .int x2, .ref q5, .ref q6, .ref q7, .ref q8, .ref q9, .ref q10])), (q1, .inl (k0, 3000, .inl (upd f103 (Int32.toNatClampNeg (nI (n0 + 1))) (vp_nar .byte x105))))] := hD
  obtain ⟨f106, ef106⟩ : ∃ z : Nat → Int32, z = (upd f103 (Int32.toNatClampNeg (nI (n0 + 1))) (vp_nar .byte x105)) := ⟨_, rfl⟩
  rw [← ef106] at hP hD
  have hP : va_P (dC, dI) classes [(q0, .inr (11, [.ref q1, .int (nI (n0 + 1)), .ref q2, .ref q3, .ref q4, .int x0, .int x1, .int x2, .ref q5, .ref q6, .ref q7, .ref q8, .ref q9, .ref q10])), (q1, .inl (k0, 3000, .inl f106))] H := hP
  have hD : va_D A [(q0, .inr (11, [.ref q1, .int (nI (n0 + 1)), .ref q2, .ref q3, .ref q4, .int x0, .int x1, .int x2, .ref q5, .ref q6, .ref q7, .ref q8, .ref q9, .ref q10])), (q1, .inl (k0, 3000, .inl f106))] := hD
  refine lv_aload_n hx hb dX11_feedNumber_32 rfl (lv_at hl 1 rfl) ?_
  refine lv_dup hx hb dX11_feedNumber_33 rfl ?_
  refine va_get (D := (dC, dI)) (ci := 11) (v := .int (nI (n0 + 1))) (C := RX11) (T := TX11) (N := 14) hx hb hts (fun w h => mc (in_X11 w h)) hown hK hP 0 rfl rfl 1 (by decide) (hts _ (mc m_5)) (fun _ h9 => h9) rfl dX11_feedNumber_34 ?_
  refine lv_iconst (v := 1) hx hb dX11_feedNumber_37 (by decide) ?_
  refine lv_iadd hx hb dX11_feedNumber_38 ?_
  refine q_topi (nI (n0 + 2)) (nI_add _ 1) ?_
  refine va_put (D := (dC, dI)) (ci := 11) (v := .int (nI (n0 + 2))) (ty := .int) (C := RX11) (T := TX11) (N := 14) hx hb hts (fun w h => mc (in_X11 w h)) tyX11 tyX11_ok nmX11 hown hK hP hD hS 0 rfl rfl 1 (by decide) (hts _ (mc m_5)) (fun _ h9 => h9) rfl (by decide +kernel) (by first | rfl | decide) (by first | rfl | decide) (Nat.le_of_ble_eq_true rfl) dX11_feedNumber_39 (fun H locs hP hD hS => ?_)
  have hP : va_P (dC, dI) classes [(q0, .inr (11, [.ref q1, .int (nI (n0 + 2)), .ref q2, .ref q3, .ref q4, .int x0, .int x1, .int x2, .ref q5, .ref q6, .ref q7, .ref q8, .ref q9, .ref q10])), (q1, .inl (k0, 3000, .inl f106))] H := hP
  have hD : va_D A [(q0, .inr (11, [.ref q1, .int (nI (n0 + 2)), .ref q2, .ref q3, .ref q4, .int x0, .int x1, .int x2, .ref q5, .ref q6, .ref q7, .ref q8, .ref q9, .ref q10])), (q1, .inl (k0, 3000, .inl f106))] := hD
  refine lv_iinc (v := 8) (lv' := [(2, .int 8), (0, .ref q0), (1, .int p0)]) hx hb dX11_feedNumber_42 hl (k := 0) rfl (by decide) (by decide) rfl (fun ls hl => ?_)
  refine lv_goto (tgt := 3) hx hb dX11_feedNumber_45 (by decide) ?_
  refine lv_iload_n hx hb dX11_feedNumber_3 rfl (lv_at hl 0 rfl) ?_
  refine lv_if_lt (tgt := 48) hx hb dX11_feedNumber_4 (by decide) (fun c9 => absurd c9 (by decide)) (fun _ => ?_)
  refine lv_aload_n hx hb dX11_feedNumber_7 rfl (lv_at hl 1 rfl) ?_
  refine va_get (D := (dC, dI)) (ci := 11) (v := .int (nI (n0 + 2))) (C := RX11) (T := TX11) (N := 14) hx hb hts (fun w h => mc (in_X11 w h)) hown hK hP 0 rfl rfl 1 (by decide) (hts _ (mc m_5)) (fun _ h9 => h9) rfl dX11_feedNumber_8 ?_
  refine lv_aload_n hx hb dX11_feedNumber_11 rfl (lv_at hl 1 rfl) ?_
  refine va_get (D := (dC, dI)) (ci := 11) (v := .ref q1) (C := RX11) (T := TX11) (N := 14) hx hb hts (fun w h => mc (in_X11 w h)) hown hK hP 0 rfl rfl 0 (by decide) (hts _ (mc m_4)) (fun _ h9 => h9) rfl dX11_feedNumber_12 ?_
  refine va_alen (v := 3000) hx hb hK hP 1 0 rfl rfl (by first | rfl | decide) dX11_feedNumber_15 ?_
  refine lv_icmp_ge (tgt := 42) hx hb dX11_feedNumber_16 (by decide) (fun c9 => absurd c9 (nI_ge (b := 3000) (by omega) (by decide))) (fun _ => ?_)
  refine lv_aload_n hx hb dX11_feedNumber_19 rfl (lv_at hl 1 rfl) ?_
  refine va_get (D := (dC, dI)) (ci := 11) (v := .ref q1) (C := RX11) (T := TX11) (N := 14) hx hb hts (fun w h => mc (in_X11 w h)) hown hK hP 0 rfl rfl 0 (by decide) (hts _ (mc m_4)) (fun _ h9 => h9) rfl dX11_feedNumber_20 ?_
  refine lv_aload_n hx hb dX11_feedNumber_23 rfl (lv_at hl 1 rfl) ?_
  refine va_get (D := (dC, dI)) (ci := 11) (v := .int (nI (n0 + 2))) (C := RX11) (T := TX11) (N := 14) hx hb hts (fun w h => mc (in_X11 w h)) hown hK hP 0 rfl rfl 1 (by decide) (hts _ (mc m_5)) (fun _ h9 => h9) rfl dX11_feedNumber_24 ?_
  refine lv_iload_n hx hb dX11_feedNumber_27 rfl (lv_at hl 2 rfl) ?_
  refine lv_iload_n hx hb dX11_feedNumber_28 rfl (lv_at hl 0 rfl) ?_
  refine lv_ishr hx hb dX11_feedNumber_29 ?_
  refine lv_topi (fun x107 ex107 => ?_)
  refine lv_i2b hx hb dX11_feedNumber_30 rfl ?_
  refine lv_topi (fun x108 ex108 => ?_)
  refine va_bast hx hb hK hP hD hS 1 0 rfl rfl (vp_in_nI (by omega) (by decide)) dX11_feedNumber_31 (fun H locs hP hD hS => ?_)
  have hP : va_P (dC, dI) classes [(q0, .inr (11, [.ref q1, .int (nI (n0 + 2)), .ref q2, .ref q3, .ref q4, .int x0, .int x1, .int x2, .ref q5, .ref q6, .ref q7, .ref q8, .ref q9, .ref q10])), (q1, .inl (k0, 3000, .inl (upd f106 (Int32.toNatClampNeg (nI (n0 + 2))) (vp_nar .byte x108))))] H := hP
  have hD : va_D A [(q0, .inr (11, [.ref q1, .int (nI (n0 + 2)), .ref q2, .ref q3, .ref q4, .int x0, .int x1, .int x2, .ref q5, .ref q6, .ref q7, .ref q8, .ref q9, .ref q10])), (q1, .inl (k0, 3000, .inl (upd f106 (Int32.toNatClampNeg (nI (n0 + 2))) (vp_nar .byte x108))))] := hD
  obtain ⟨f109, ef109⟩ : ∃ z : Nat → Int32, z = (upd f106 (Int32.toNatClampNeg (nI (n0 + 2))) (vp_nar .byte x108)) := ⟨_, rfl⟩
  rw [← ef109] at hP hD
  have hP : va_P (dC, dI) classes [(q0, .inr (11, [.ref q1, .int (nI (n0 + 2)), .ref q2, .ref q3, .ref q4, .int x0, .int x1, .int x2, .ref q5, .ref q6, .ref q7, .ref q8, .ref q9, .ref q10])), (q1, .inl (k0, 3000, .inl f109))] H := hP
  have hD : va_D A [(q0, .inr (11, [.ref q1, .int (nI (n0 + 2)), .ref q2, .ref q3, .ref q4, .int x0, .int x1, .int x2, .ref q5, .ref q6, .ref q7, .ref q8, .ref q9, .ref q10])), (q1, .inl (k0, 3000, .inl f109))] := hD
  refine lv_aload_n hx hb dX11_feedNumber_32 rfl (lv_at hl 1 rfl) ?_
  refine lv_dup hx hb dX11_feedNumber_33 rfl ?_
  refine va_get (D := (dC, dI)) (ci := 11) (v := .int (nI (n0 + 2))) (C := RX11) (T := TX11) (N := 14) hx hb hts (fun w h => mc (in_X11 w h)) hown hK hP 0 rfl rfl 1 (by decide) (hts _ (mc m_5)) (fun _ h9 => h9) rfl dX11_feedNumber_34 ?_
  refine lv_iconst (v := 1) hx hb dX11_feedNumber_37 (by decide) ?_
  refine lv_iadd hx hb dX11_feedNumber_38 ?_
  refine q_topi (nI (n0 + 3)) (nI_add _ 1) ?_
  refine va_put (D := (dC, dI)) (ci := 11) (v := .int (nI (n0 + 3))) (ty := .int) (C := RX11) (T := TX11) (N := 14) hx hb hts (fun w h => mc (in_X11 w h)) tyX11 tyX11_ok nmX11 hown hK hP hD hS 0 rfl rfl 1 (by decide) (hts _ (mc m_5)) (fun _ h9 => h9) rfl (by decide +kernel) (by first | rfl | decide) (by first | rfl | decide) (Nat.le_of_ble_eq_true rfl) dX11_feedNumber_39 (fun H locs hP hD hS => ?_)
  have hP : va_P (dC, dI) classes [(q0, .inr (11, [.ref q1, .int (nI (n0 + 3)), .ref q2, .ref q3, .ref q4, .int x0, .int x1, .int x2, .ref q5, .ref q6, .ref q7, .ref q8, .ref q9, .ref q10])), (q1, .inl (k0, 3000, .inl f109))] H := hP
  have hD : va_D A [(q0, .inr (11, [.ref q1, .int (nI (n0 + 3)), .ref q2, .ref q3, .ref q4, .int x0, .int x1, .int x2, .ref q5, .ref q6, .ref q7, .ref q8, .ref q9, .ref q10])), (q1, .inl (k0, 3000, .inl f109))] := hD
  refine lv_iinc (v := 0) (lv' := [(2, .int 0), (0, .ref q0), (1, .int p0)]) hx hb dX11_feedNumber_42 hl (k := 0) rfl (by decide) (by decide) rfl (fun ls hl => ?_)
  refine lv_goto (tgt := 3) hx hb dX11_feedNumber_45 (by decide) ?_
  refine lv_iload_n hx hb dX11_feedNumber_3 rfl (lv_at hl 0 rfl) ?_
  refine lv_if_lt (tgt := 48) hx hb dX11_feedNumber_4 (by decide) (fun c9 => absurd c9 (by decide)) (fun _ => ?_)
  refine lv_aload_n hx hb dX11_feedNumber_7 rfl (lv_at hl 1 rfl) ?_
  refine va_get (D := (dC, dI)) (ci := 11) (v := .int (nI (n0 + 3))) (C := RX11) (T := TX11) (N := 14) hx hb hts (fun w h => mc (in_X11 w h)) hown hK hP 0 rfl rfl 1 (by decide) (hts _ (mc m_5)) (fun _ h9 => h9) rfl dX11_feedNumber_8 ?_
  refine lv_aload_n hx hb dX11_feedNumber_11 rfl (lv_at hl 1 rfl) ?_
  refine va_get (D := (dC, dI)) (ci := 11) (v := .ref q1) (C := RX11) (T := TX11) (N := 14) hx hb hts (fun w h => mc (in_X11 w h)) hown hK hP 0 rfl rfl 0 (by decide) (hts _ (mc m_4)) (fun _ h9 => h9) rfl dX11_feedNumber_12 ?_
  refine va_alen (v := 3000) hx hb hK hP 1 0 rfl rfl (by first | rfl | decide) dX11_feedNumber_15 ?_
  refine lv_icmp_ge (tgt := 42) hx hb dX11_feedNumber_16 (by decide) (fun c9 => absurd c9 (nI_ge (b := 3000) (by omega) (by decide))) (fun _ => ?_)
  refine lv_aload_n hx hb dX11_feedNumber_19 rfl (lv_at hl 1 rfl) ?_
  refine va_get (D := (dC, dI)) (ci := 11) (v := .ref q1) (C := RX11) (T := TX11) (N := 14) hx hb hts (fun w h => mc (in_X11 w h)) hown hK hP 0 rfl rfl 0 (by decide) (hts _ (mc m_4)) (fun _ h9 => h9) rfl dX11_feedNumber_20 ?_
  refine lv_aload_n hx hb dX11_feedNumber_23 rfl (lv_at hl 1 rfl) ?_
  refine va_get (D := (dC, dI)) (ci := 11) (v := .int (nI (n0 + 3))) (C := RX11) (T := TX11) (N := 14) hx hb hts (fun w h => mc (in_X11 w h)) hown hK hP 0 rfl rfl 1 (by decide) (hts _ (mc m_5)) (fun _ h9 => h9) rfl dX11_feedNumber_24 ?_
  refine lv_iload_n hx hb dX11_feedNumber_27 rfl (lv_at hl 2 rfl) ?_
  refine lv_iload_n hx hb dX11_feedNumber_28 rfl (lv_at hl 0 rfl) ?_
  refine lv_ishr hx hb dX11_feedNumber_29 ?_
  refine lv_topi (fun x110 ex110 => ?_)
  refine lv_i2b hx hb dX11_feedNumber_30 rfl ?_
  refine lv_topi (fun x111 ex111 => ?_)
  refine va_bast hx hb hK hP hD hS 1 0 rfl rfl (vp_in_nI (by omega) (by decide)) dX11_feedNumber_31 (fun H locs hP hD hS => ?_)
  have hP : va_P (dC, dI) classes [(q0, .inr (11, [.ref q1, .int (nI (n0 + 3)), .ref q2, .ref q3, .ref q4, .int x0, .int x1, .int x2, .ref q5, .ref q6, .ref q7, .ref q8, .ref q9, .ref q10])), (q1, .inl (k0, 3000, .inl (upd f109 (Int32.toNatClampNeg (nI (n0 + 3))) (vp_nar .byte x111))))] H := hP
  have hD : va_D A [(q0, .inr (11, [.ref q1, .int (nI (n0 + 3)), .ref q2, .ref q3, .ref q4, .int x0, .int x1, .int x2, .ref q5, .ref q6, .ref q7, .ref q8, .ref q9, .ref q10])), (q1, .inl (k0, 3000, .inl (upd f109 (Int32.toNatClampNeg (nI (n0 + 3))) (vp_nar .byte x111))))] := hD
  obtain ⟨f112, ef112⟩ : ∃ z : Nat → Int32, z = (upd f109 (Int32.toNatClampNeg (nI (n0 + 3))) (vp_nar .byte x111)) := ⟨_, rfl⟩
  rw [← ef112] at hP hD
  have hP : va_P (dC, dI) classes [(q0, .inr (11, [.ref q1, .int (nI (n0 + 3)), .ref q2, .ref q3, .ref q4, .int x0, .int x1, .int x2, .ref q5, .ref q6, .ref q7, .ref q8, .ref q9, .ref q10])), (q1, .inl (k0, 3000, .inl f112))] H := hP
  have hD : va_D A [(q0, .inr (11, [.ref q1, .int (nI (n0 + 3)), .ref q2, .ref q3, .ref q4, .int x0, .int x1, .int x2, .ref q5, .ref q6, .ref q7, .ref q8, .ref q9, .ref q10])), (q1, .inl (k0, 3000, .inl f112))] := hD
  refine lv_aload_n hx hb dX11_feedNumber_32 rfl (lv_at hl 1 rfl) ?_
  refine lv_dup hx hb dX11_feedNumber_33 rfl ?_
  refine va_get (D := (dC, dI)) (ci := 11) (v := .int (nI (n0 + 3))) (C := RX11) (T := TX11) (N := 14) hx hb hts (fun w h => mc (in_X11 w h)) hown hK hP 0 rfl rfl 1 (by decide) (hts _ (mc m_5)) (fun _ h9 => h9) rfl dX11_feedNumber_34 ?_
  refine lv_iconst (v := 1) hx hb dX11_feedNumber_37 (by decide) ?_
  refine lv_iadd hx hb dX11_feedNumber_38 ?_
  refine q_topi (nI (n0 + 4)) (nI_add _ 1) ?_
  refine va_put (D := (dC, dI)) (ci := 11) (v := .int (nI (n0 + 4))) (ty := .int) (C := RX11) (T := TX11) (N := 14) hx hb hts (fun w h => mc (in_X11 w h)) tyX11 tyX11_ok nmX11 hown hK hP hD hS 0 rfl rfl 1 (by decide) (hts _ (mc m_5)) (fun _ h9 => h9) rfl (by decide +kernel) (by first | rfl | decide) (by first | rfl | decide) (Nat.le_of_ble_eq_true rfl) dX11_feedNumber_39 (fun H locs hP hD hS => ?_)
  have hP : va_P (dC, dI) classes [(q0, .inr (11, [.ref q1, .int (nI (n0 + 4)), .ref q2, .ref q3, .ref q4, .int x0, .int x1, .int x2, .ref q5, .ref q6, .ref q7, .ref q8, .ref q9, .ref q10])), (q1, .inl (k0, 3000, .inl f112))] H := hP
  have hD : va_D A [(q0, .inr (11, [.ref q1, .int (nI (n0 + 4)), .ref q2, .ref q3, .ref q4, .int x0, .int x1, .int x2, .ref q5, .ref q6, .ref q7, .ref q8, .ref q9, .ref q10])), (q1, .inl (k0, 3000, .inl f112))] := hD
  refine lv_iinc (v := (-8)) (lv' := [(2, .int (-8)), (0, .ref q0), (1, .int p0)]) hx hb dX11_feedNumber_42 hl (k := 0) rfl (by decide) (by decide) rfl (fun ls hl => ?_)
  refine lv_goto (tgt := 3) hx hb dX11_feedNumber_45 (by decide) ?_
  refine lv_iload_n hx hb dX11_feedNumber_3 rfl (lv_at hl 0 rfl) ?_
  refine lv_if_lt (tgt := 48) hx hb dX11_feedNumber_4 (by decide) (fun _ => ?_) (fun c9 => absurd (by decide) c9)
  exact W.vret hx hb hr (fun t ht hW => ⟨⟨(), rfl, trivial, f112, by rw [ht]; exact hP, va_K.moved hW.alike hK, hD⟩, hS.F ht⟩) hS.2.2 dX11_feedNumber_48
set_option maxHeartbeats 4000000 in
set_option maxRecDepth 100000 in
theorem c_X11_feedNumber_1 (l : Launch) (dC : Nat → ClassId) (dI : Nat → Nat → Nat) (q0 : Nat) (p0 : Int32) (q1 : Nat) (n0 : Nat) (q2 : Nat) (q3 : Nat) (q4 : Nat) (x0 : Int32) (x1 : Int32) (x2 : Int32) (q5 : Nat) (q6 : Nat) (q7 : Nat) (q8 : Nat) (q9 : Nat) (q10 : Nat) (k0 : ClassId) (f0 : Nat → Int32) (sz : Nat) (h1 : n0 + 20 ≤ 3000) : Met l yX11_feedNumber (.code yX11_feedNumber cX11_feedNumber 3 none :: bigW) { frames := 0, cells := 0, slots := 0, locals := 0 } (va_Pc [.ref q0, .int p0] (q_In dC dI [(q0, .inr (11, [.ref q1, .int (nI (n0 + 4)), .ref q2, .ref q3, .ref q4, .int x0, .int x1, .int x2, .ref q5, .ref q6, .ref q7, .ref q8, .ref q9, .ref q10])), (q1, .inl (k0, 3000, .inl f0))] [(k0, .byte)] sz)) (va_Qv (fun _ : Unit => True) (fun _ t => ∃ (f112 : Nat → Int32), va_P (dC, dI) classes [(q0, .inr (11, [.ref q1, .int (nI (n0 + 8)), .ref q2, .ref q3, .ref q4, .int x0, .int x1, .int x2, .ref q5, .ref q6, .ref q7, .ref q8, .ref q9, .ref q10])), (q1, .inl (k0, 3000, .inl f112))] t.heap ∧ va_K (dC, dI) classes [(k0, .byte)] t ∧ va_D (va_A [(q0, .inr (11, [.ref q1, .int (nI (n0 + 4)), .ref q2, .ref q3, .ref q4, .int x0, .int x1, .int x2, .ref q5, .ref q6, .ref q7, .ref q8, .ref q9, .ref q10])), (q1, .inl (k0, 3000, .inl f0))] sz) [(q0, .inr (11, [.ref q1, .int (nI (n0 + 8)), .ref q2, .ref q3, .ref q4, .int x0, .int x1, .int x2, .ref q5, .ref q6, .ref q7, .ref q8, .ref q9, .ref q10])), (q1, .inl (k0, 3000, .inl f112))]) (va_A [(q0, .inr (11, [.ref q1, .int (nI (n0 + 4)), .ref q2, .ref q3, .ref q4, .int x0, .int x1, .int x2, .ref q5, .ref q6, .ref q7, .ref q8, .ref q9, .ref q10])), (q1, .inl (k0, 3000, .inl f0))] sz)) 0 0 (va_A [(q0, .inr (11, [.ref q1, .int (nI (n0 + 4)), .ref q2, .ref q3, .ref q4, .int x0, .int x1, .int x2, .ref q5, .ref q6, .ref q7, .ref q8, .ref q9, .ref q10])), (q1, .inl (k0, 3000, .inl f0))] sz) := by
  refine Met.ofW (cc := cX11_feedNumber) (maxL := 3) (ret := none) (by decide) rfl ?_
  intro p e s m args below meth c s₁ B hml hv
  obtain ⟨rfl, hsz, hP, hK, hD0, hE⟩ := hv
  have hx := B.exec
  have hb := B.bytes
  have hr := B.returns
  have hts := atoms_spec (ws := .code yX11_feedNumber cX11_feedNumber 3 none :: bigW) B.pre
  have hown : s.vm.findClass RX11 = some m.cls := findClass_of_methodNamed B.named
  have hlocks := B.notSynchronized
  subst hsz
  have hD := hD0.self (sz := s.heap.size)
  generalize hAe : va_A [(q0, .inr (11, [.ref q1, .int (nI (n0 + 4)), .ref q2, .ref q3, .ref q4, .int x0, .int x1, .int x2, .ref q5, .ref q6, .ref q7, .ref q8, .ref q9, .ref q10])), (q1, .inl (k0, 3000, .inl f0))] s.heap.size = A at hD hE ⊢
  have hN : q_N s := hE.2.2.2.1
  have hA : ∀ q : Nat, s.heap.size ≤ q → A q := fun q h => by rw [← hAe]; exact Or.inr h
  have hS : va_S A s.heap s.heap [] := va_S.rf
  have hP : va_P (dC, dI) classes [(q0, .inr (11, [.ref q1, .int (nI (n0 + 4)), .ref q2, .ref q3, .ref q4, .int x0, .int x1, .int x2, .ref q5, .ref q6, .ref q7, .ref q8, .ref q9, .ref q10])), (q1, .inl (k0, 3000, .inl f0))] s.heap := hP
  have hl := lv_entry ([.ref q0, .int p0]) (n := 3) (Nat.le_of_ble_eq_true rfl)
  rw [lg_entry_eq]
  generalize (lg_sl ([.ref q0, .int p0]) ++ List.replicate (3 - (lg_sl ([.ref q0, .int p0])).length) Slot.unset).toArray = ls at hl ⊢
  have hl : lv_has ls 3 [(0, .ref q0), (1, .int p0)] := hl
  refine lv_bipush (v := 24) hx hb dX11_feedNumber_0 (by decide) ?_
  refine lv_istore_n (lv' := [(2, .int 24), (0, .ref q0), (1, .int p0)]) hx hb dX11_feedNumber_2 rfl hl (by decide) rfl (fun ls hl => ?_)
  refine lv_iload_n hx hb dX11_feedNumber_3 rfl (lv_at hl 0 rfl) ?_
  refine lv_if_lt (tgt := 48) hx hb dX11_feedNumber_4 (by decide) (fun c9 => absurd c9 (by decide)) (fun _ => ?_)
  refine lv_aload_n hx hb dX11_feedNumber_7 rfl (lv_at hl 1 rfl) ?_
  refine va_get (D := (dC, dI)) (ci := 11) (v := .int (nI (n0 + 4))) (C := RX11) (T := TX11) (N := 14) hx hb hts (fun w h => mc (in_X11 w h)) hown hK hP 0 rfl rfl 1 (by decide) (hts _ (mc m_5)) (fun _ h9 => h9) rfl dX11_feedNumber_8 ?_
  refine lv_aload_n hx hb dX11_feedNumber_11 rfl (lv_at hl 1 rfl) ?_
  refine va_get (D := (dC, dI)) (ci := 11) (v := .ref q1) (C := RX11) (T := TX11) (N := 14) hx hb hts (fun w h => mc (in_X11 w h)) hown hK hP 0 rfl rfl 0 (by decide) (hts _ (mc m_4)) (fun _ h9 => h9) rfl dX11_feedNumber_12 ?_
  refine va_alen (v := 3000) hx hb hK hP 1 0 rfl rfl (by first | rfl | decide) dX11_feedNumber_15 ?_
  refine lv_icmp_ge (tgt := 42) hx hb dX11_feedNumber_16 (by decide) (fun c9 => absurd c9 (nI_ge (b := 3000) (by omega) (by decide))) (fun _ => ?_)
  refine lv_aload_n hx hb dX11_feedNumber_19 rfl (lv_at hl 1 rfl) ?_
  refine va_get (D := (dC, dI)) (ci := 11) (v := .ref q1) (C := RX11) (T := TX11) (N := 14) hx hb hts (fun w h => mc (in_X11 w h)) hown hK hP 0 rfl rfl 0 (by decide) (hts _ (mc m_4)) (fun _ h9 => h9) rfl dX11_feedNumber_20 ?_
  refine lv_aload_n hx hb dX11_feedNumber_23 rfl (lv_at hl 1 rfl) ?_
  refine va_get (D := (dC, dI)) (ci := 11) (v := .int (nI (n0 + 4))) (C := RX11) (T := TX11) (N := 14) hx hb hts (fun w h => mc (in_X11 w h)) hown hK hP 0 rfl rfl 1 (by decide) (hts _ (mc m_5)) (fun _ h9 => h9) rfl dX11_feedNumber_24 ?_
  refine lv_iload_n hx hb dX11_feedNumber_27 rfl (lv_at hl 2 rfl) ?_
  refine lv_iload_n hx hb dX11_feedNumber_28 rfl (lv_at hl 0 rfl) ?_
  refine lv_ishr hx hb dX11_feedNumber_29 ?_
  refine lv_topi (fun x101 ex101 => ?_)
  refine lv_i2b hx hb dX11_feedNumber_30 rfl ?_
  refine lv_topi (fun x102 ex102 => ?_)
  refine va_bast hx hb hK hP hD hS 1 0 rfl rfl (vp_in_nI (by omega) (by decide)) dX11_feedNumber_31 (fun H locs hP hD hS => ?_)
  have hP : va_P (dC, dI) classes [(q0, .inr (11, [.ref q1, .int (nI (n0 + 4)), .ref q2, .ref q3, .ref q4, .int x0, .int x1, .int x2, .ref q5, .ref q6, .ref q7, .ref q8, .ref q9, .ref q10])), (q1, .inl (k0, 3000, .inl (upd f0 (Int32.toNatClampNeg (nI (n0 + 4))) (vp_nar .byte x102))))] H := hP
  have hD : va_D A [(q0, .inr (11, [.ref q1, .int (nI (n0 + 4)), .ref q2, .ref q3, .ref q4, .int x0, .int x1, .int x2, .ref q5, .ref q6, .ref q7, .ref q8, .ref q9, .ref q10])), (q1, .inl (k0, 3000, .inl (upd f0 (Int32.toNatClampNeg (nI (n0 + 4))) (vp_nar .byte x102))))] := hD
  obtain ⟨f103, ef103⟩ : ∃ z : Nat → Int32, z = (upd f0 (Int32.toNatClampNeg (nI (n0 + 4))) (vp_nar .byte x102)) := ⟨_, rfl⟩
  rw [← ef103] at hP hD
  have hP : va_P (dC, dI) classes [(q0, .inr (11, [.ref q1, .int (nI (n0 + 4)), .ref q2, .ref q3, .ref q4, .int x0, .int x1, .int x2, .ref q5, .ref q6, .ref q7, .ref q8, .ref q9, .ref q10])), (q1, .inl (k0, 3000, .inl f103))] H := hP
  have hD : va_D A [(q0, .inr (11, [.ref q1, .int (nI (n0 + 4)), .ref q2, .ref q3, .ref q4, .int x0, .int x1, .int x2, .ref q5, .ref q6, .ref q7, .ref q8, .ref q9, .ref q10])), (q1, .inl (k0, 3000, .inl f103))] := hD
  refine lv_aload_n hx hb dX11_feedNumber_32 rfl (lv_at hl 1 rfl) ?_
  refine lv_dup hx hb dX11_feedNumber_33 rfl ?_
  refine va_get (D := (dC, dI)) (ci := 11) (v := .int (nI (n0 + 4))) (C := RX11) (T := TX11) (N := 14) hx hb hts (fun w h => mc (in_X11 w h)) hown hK hP 0 rfl rfl 1 (by decide) (hts _ (mc m_5)) (fun _ h9 => h9) rfl dX11_feedNumber_34 ?_
  refine lv_iconst (v := 1) hx hb dX11_feedNumber_37 (by decide) ?_
  refine lv_iadd hx hb dX11_feedNumber_38 ?_
  refine q_topi (nI (n0 + 5)) (nI_add _ 1) ?_
  refine va_put (D := (dC, dI)) (ci := 11) (v := .int (nI (n0 + 5))) (ty := .int) (C := RX11) (T := TX11) (N := 14) hx hb hts (fun w h => mc (in_X11 w h)) tyX11 tyX11_ok nmX11 hown hK hP hD hS 0 rfl rfl 1 (by decide) (hts _ (mc m_5)) (fun _ h9 => h9) rfl (by decide +kernel) (by first | rfl | decide) (by first | rfl | decide) (Nat.le_of_ble_eq_true rfl) dX11_feedNumber_39 (fun H locs hP hD hS => ?_)
  have hP : va_P (dC, dI) classes [(q0, .inr (11, [.ref q1, .int (nI (n0 + 5)), .ref q2, .ref q3, .ref q4, .int x0, .int x1, .int x2, .ref q5, .ref q6, .ref q7, .ref q8, .ref q9, .ref q10])), (q1, .inl (k0, 3000, .inl f103))] H := hP
  have hD : va_D A [(q0, .inr (11, [.ref q1, .int (nI (n0 + 5)), .ref q2, .ref q3, .ref q4, .int x0, .int x1, .int x2, .ref q5, .ref q6, .ref q7, .ref q8, .ref q9, .ref q10])), (q1, .inl (k0, 3000, .inl f103))] := hD
  refine lv_iinc (v := 16) (lv' := [(2, .int 16), (0, .ref q0), (1, .int p0)]) hx hb dX11_feedNumber_42 hl (k := 0) rfl (by decide) (by decide) rfl (fun ls hl => ?_)
  refine lv_goto (tgt := 3) hx hb dX11_feedNumber_45 (by decide) ?_
  refine lv_iload_n hx hb dX11_feedNumber_3 rfl (lv_at hl 0 rfl) ?_
  refine lv_if_lt (tgt := 48) hx hb dX11_feedNumber_4 (by decide) (fun c9 => absurd c9 (by decide)) (fun _ => ?_)
  refine lv_aload_n hx hb dX11_feedNumber_7 rfl (lv_at hl 1 rfl) ?_
  refine va_get (D := (dC, dI)) (ci := 11) (v := .int (nI (n0 + 5))) (C := RX11) (T := TX11) (N := 14) hx hb hts (fun w h => mc (in_X11 w h)) hown hK hP 0 rfl rfl 1 (by decide) (hts _ (mc m_5)) (fun _ h9 => h9) rfl dX11_feedNumber_8 ?_
  refine lv_aload_n hx hb dX11_feedNumber_11 rfl (lv_at hl 1 rfl) ?_
  refine va_get (D := (dC, dI)) (ci := 11) (v := .ref q1) (C := RX11) (T := TX11) (N := 14) hx hb hts (fun w h => mc (in_X11 w h)) hown hK hP 0 rfl rfl 0 (by decide) (hts _ (mc m_4)) (fun _ h9 => h9) rfl dX11_feedNumber_12 ?_
  refine va_alen (v := 3000) hx hb hK hP 1 0 rfl rfl (by first | rfl | decide) dX11_feedNumber_15 ?_
  refine lv_icmp_ge (tgt := 42) hx hb dX11_feedNumber_16 (by decide) (fun c9 => absurd c9 (nI_ge (b := 3000) (by omega) (by decide))) (fun _ => ?_)
  refine lv_aload_n hx hb dX11_feedNumber_19 rfl (lv_at hl 1 rfl) ?_
  refine va_get (D := (dC, dI)) (ci := 11) (v := .ref q1) (C := RX11) (T := TX11) (N := 14) hx hb hts (fun w h => mc (in_X11 w h)) hown hK hP 0 rfl rfl 0 (by decide) (hts _ (mc m_4)) (fun _ h9 => h9) rfl dX11_feedNumber_20 ?_
  refine lv_aload_n hx hb dX11_feedNumber_23 rfl (lv_at hl 1 rfl) ?_
  refine va_get (D := (dC, dI)) (ci := 11) (v := .int (nI (n0 + 5))) (C := RX11) (T := TX11) (N := 14) hx hb hts (fun w h => mc (in_X11 w h)) hown hK hP 0 rfl rfl 1 (by decide) (hts _ (mc m_5)) (fun _ h9 => h9) rfl dX11_feedNumber_24 ?_
  refine lv_iload_n hx hb dX11_feedNumber_27 rfl (lv_at hl 2 rfl) ?_
  refine lv_iload_n hx hb dX11_feedNumber_28 rfl (lv_at hl 0 rfl) ?_
  refine lv_ishr hx hb dX11_feedNumber_29 ?_
  refine lv_topi (fun x104 ex104 => ?_)
  refine lv_i2b hx hb dX11_feedNumber_30 rfl ?_
  refine lv_topi (fun x105 ex105 => ?_)
  refine va_bast hx hb hK hP hD hS 1 0 rfl rfl (vp_in_nI (by omega) (by decide)) dX11_feedNumber_31 (fun H locs hP hD hS => ?_)
  have hP : va_P (dC, dI) classes [(q0, .inr (11, [.ref q1, .int (nI (n0 + 5)), .ref q2, .ref q3, .ref q4, .int x0, .int x1, .int x2, .ref q5, .ref q6, .ref q7, .ref q8, .ref q9, .ref q10])), (q1, .inl (k0, 3000, .inl (upd f103 (Int32.toNatClampNeg (nI (n0 + 5))) (vp_nar .byte x105))))] H := hP
  have hD : va_D A [(q0, .inr (11, [.ref q1, .int (nI (n0 + 5)), .ref q2, .ref q3, .ref q4, .int x0, .int x1, .int x2, .ref q5, .ref q6, .ref q7, .ref q8, .ref q9, .ref q10])), (q1, .inl (k0, 3000, .inl (upd f103 (Int32.toNatClampNeg (nI (n0 + 5))) (vp_nar .byte x105))))] := hD
  obtain ⟨f106, ef106⟩ : ∃ z : Nat → Int32, z = (upd f103 (Int32.toNatClampNeg (nI (n0 + 5))) (vp_nar .byte x105)) := ⟨_, rfl⟩
  rw [← ef106] at hP hD
  have hP : va_P (dC, dI) classes [(q0, .inr (11, [.ref q1, .int (nI (n0 + 5)), .ref q2, .ref q3, .ref q4, .int x0, .int x1, .int x2, .ref q5, .ref q6, .ref q7, .ref q8, .ref q9, .ref q10])), (q1, .inl (k0, 3000, .inl f106))] H := hP
  have hD : va_D A [(q0, .inr (11, [.ref q1, .int (nI (n0 + 5)), .ref q2, .ref q3, .ref q4, .int x0, .int x1, .int x2, .ref q5, .ref q6, .ref q7, .ref q8, .ref q9, .ref q10])), (q1, .inl (k0, 3000, .inl f106))] := hD
  refine lv_aload_n hx hb dX11_feedNumber_32 rfl (lv_at hl 1 rfl) ?_
  refine lv_dup hx hb dX11_feedNumber_33 rfl ?_
  refine va_get (D := (dC, dI)) (ci := 11) (v := .int (nI (n0 + 5))) (C := RX11) (T := TX11) (N := 14) hx hb hts (fun w h => mc (in_X11 w h)) hown hK hP 0 rfl rfl 1 (by decide) (hts _ (mc m_5)) (fun _ h9 => h9) rfl dX11_feedNumber_34 ?_
  refine lv_iconst (v := 1) hx hb dX11_feedNumber_37 (by decide) ?_
  refine lv_iadd hx hb dX11_feedNumber_38 ?_
  refine q_topi (nI (n0 + 6)) (nI_add _ 1) ?_
  refine va_put (D := (dC, dI)) (ci := 11) (v := .int (nI (n0 + 6))) (ty := .int) (C := RX11) (T := TX11) (N := 14) hx hb hts (fun w h => mc (in_X11 w h)) tyX11 tyX11_ok nmX11 hown hK hP hD hS 0 rfl rfl 1 (by decide) (hts _ (mc m_5)) (fun _ h9 => h9) rfl (by decide +kernel) (by first | rfl | decide) (by first | rfl | decide) (Nat.le_of_ble_eq_true rfl) dX11_feedNumber_39 (fun H locs hP hD hS => ?_)
  have hP : va_P (dC, dI) classes [(q0, .inr (11, [.ref q1, .int (nI (n0 + 6)), .ref q2, .ref q3, .ref q4, .int x0, .int x1, .int x2, .ref q5, .ref q6, .ref q7, .ref q8, .ref q9, .ref q10])), (q1, .inl (k0, 3000, .inl f106))] H := hP
  have hD : va_D A [(q0, .inr (11, [.ref q1, .int (nI (n0 + 6)), .ref q2, .ref q3, .ref q4, .int x0, .int x1, .int x2, .ref q5, .ref q6, .ref q7, .ref q8, .ref q9, .ref q10])), (q1, .inl (k0, 3000, .inl f106))] := hD
  refine lv_iinc (v := 8) (lv' := [(2, .int 8), (0, .ref q0), (1, .int p0)]) hx hb dX11_feedNumber_42 hl (k := 0) rfl (by decide) (by decide) rfl (fun ls hl => ?_)
  refine lv_goto (tgt := 3) hx hb dX11_feedNumber_45 (by decide) ?_
  refine lv_iload_n hx hb dX11_feedNumber_3 rfl (lv_at hl 0 rfl) ?_
  refine lv_if_lt (tgt := 48) hx hb dX11_feedNumber_4 (by decide) (fun c9 => absurd c9 (by decide)) (fun _ => ?_)
  refine lv_aload_n hx hb dX11_feedNumber_7 rfl (lv_at hl 1 rfl) ?_
  refine va_get (D := (dC, dI)) (ci := 11) (v := .int (nI (n0 + 6))) (C := RX11) (T := TX11) (N := 14) hx hb hts (fun w h => mc (in_X11 w h)) hown hK hP 0 rfl rfl 1 (by decide) (hts _ (mc m_5)) (fun _ h9 => h9) rfl dX11_feedNumber_8 ?_
  refine lv_aload_n hx hb dX11_feedNumber_11 rfl (lv_at hl 1 rfl) ?_
  refine va_get (D := (dC, dI)) (ci := 11) (v := .ref q1) (C := RX11) (T := TX11) (N := 14) hx hb hts (fun w h => mc (in_X11 w h)) hown hK hP 0 rfl rfl 0 (by decide) (hts _ (mc m_4)) (fun _ h9 => h9) rfl dX11_feedNumber_12 ?_
  refine va_alen (v := 3000) hx hb hK hP 1 0 rfl rfl (by first | rfl | decide) dX11_feedNumber_15 ?_
  refine lv_icmp_ge (tgt := 42) hx hb dX11_feedNumber_16 (by decide) (fun c9 => absurd c9 (nI_ge (b := 3000) (by omega) (by decide))) (fun _ => ?_)
  refine lv_aload_n hx hb dX11_feedNumber_19 rfl (lv_at hl 1 rfl) ?_
  refine va_get (D := (dC, dI)) (ci := 11) (v := .ref q1) (C := RX11) (T := TX11) (N := 14) hx hb hts (fun w h => mc (in_X11 w h)) hown hK hP 0 rfl rfl 0 (by decide) (hts _ (mc m_4)) (fun _ h9 => h9) rfl dX11_feedNumber_20 ?_
  refine lv_aload_n hx hb dX11_feedNumber_23 rfl (lv_at hl 1 rfl) ?_
  refine va_get (D := (dC, dI)) (ci := 11) (v := .int (nI (n0 + 6))) (C := RX11) (T := TX11) (N := 14) hx hb hts (fun w h => mc (in_X11 w h)) hown hK hP 0 rfl rfl 1 (by decide) (hts _ (mc m_5)) (fun _ h9 => h9) rfl dX11_feedNumber_24 ?_
  refine lv_iload_n hx hb dX11_feedNumber_27 rfl (lv_at hl 2 rfl) ?_
  refine lv_iload_n hx hb dX11_feedNumber_28 rfl (lv_at hl 0 rfl) ?_
  refine lv_ishr hx hb dX11_feedNumber_29 ?_
  refine lv_topi (fun x107 ex107 => ?_)
  refine lv_i2b hx hb dX11_feedNumber_30 rfl ?_
  refine lv_topi (fun x108 ex108 => ?_)
  refine va_bast hx hb hK hP hD hS 1 0 rfl rfl (vp_in_nI (by omega) (by decide)) dX11_feedNumber_31 (fun H locs hP hD hS => ?_)
  have hP : va_P (dC, dI) classes [(q0, .inr (11, [.ref q1, .int (nI (n0 + 6)), .ref q2, .ref q3, .ref q4, .int x0, .int x1, .int x2, .ref q5, .ref q6, .ref q7, .ref q8, .ref q9, .ref q10])), (q1, .inl (k0, 3000, .inl (upd f106 (Int32.toNatClampNeg (nI (n0 + 6))) (vp_nar .byte x108))))] H := hP
  have hD : va_D A [(q0, .inr (11, [.ref q1, .int (nI (n0 + 6)), .ref q2, .ref q3, .ref q4, .int x0, .int x1, .int x2, .ref q5, .ref q6, .ref q7, .ref q8, .ref q9, .ref q10])), (q1, .inl (k0, 3000, .inl (upd f106 (Int32.toNatClampNeg (nI (n0 + 6))) (vp_nar .byte x108))))] := hD
  obtain ⟨f109, ef109⟩ : ∃ z : Nat → Int32, z = (upd f106 (Int32.toNatClampNeg (nI (n0 + 6))) (vp_nar .byte x108)) := ⟨_, rfl⟩
  rw [← ef109] at hP hD
  have hP : va_P (dC, dI) classes [(q0, .inr (11, [.ref q1, .int (nI (n0 + 6)), .ref q2, .ref q3, .ref q4, .int x0, .int x1, .int x2, .ref q5, .ref q6, .ref q7, .ref q8, .ref q9, .ref q10])), (q1, .inl (k0, 3000, .inl f109))] H := hP
  have hD : va_D A [(q0, .inr (11, [.ref q1, .int (nI (n0 + 6)), .ref q2, .ref q3, .ref q4, .int x0, .int x1, .int x2, .ref q5, .ref q6, .ref q7, .ref q8, .ref q9, .ref q10])), (q1, .inl (k0, 3000, .inl f109))] := hD
  refine lv_aload_n hx hb dX11_feedNumber_32 rfl (lv_at hl 1 rfl) ?_
  refine lv_dup hx hb dX11_feedNumber_33 rfl ?_
  refine va_get (D := (dC, dI)) (ci := 11) (v := .int (nI (n0 + 6))) (C := RX11) (T := TX11) (N := 14) hx hb hts (fun w h => mc (in_X11 w h)) hown hK hP 0 rfl rfl 1 (by decide) (hts _ (mc m_5)) (fun _ h9 => h9) rfl dX11_feedNumber_34 ?_
  refine lv_iconst (v := 1) hx hb dX11_feedNumber_37 (by decide) ?_
  refine lv_iadd hx hb dX11_feedNumber_38 ?_
  refine q_topi (nI (n0 + 7)) (nI_add _ 1) ?_
  refine va_put (D := (dC, dI)) (ci := 11) (v := .int (nI (n0 + 7))) (ty := .int) (C := RX11) (T := TX11) (N := 14) hx hb hts (fun w h => mc (in_X11 w h)) tyX11 tyX11_ok nmX11 hown hK hP hD hS 0 rfl rfl 1 (by decide) (hts _ (mc m_5)) (fun _ h9 => h9) rfl (by decide +kernel) (by first | rfl | decide) (by first | rfl | decide) (Nat.le_of_ble_eq_true rfl) dX11_feedNumber_39 (fun H locs hP hD hS => ?_)
  have hP : va_P (dC, dI) classes [(q0, .inr (11, [.ref q1, .int (nI (n0 + 7)), .ref q2, .ref q3, .ref q4, .int x0, .int x1, .int x2, .ref q5, .ref q6, .ref q7, .ref q8, .ref q9, .ref q10])), (q1, .inl (k0, 3000, .inl f109))] H := hP
  have hD : va_D A [(q0, .inr (11, [.ref q1, .int (nI (n0 + 7)), .ref q2, .ref q3, .ref q4, .int x0, .int x1, .int x2, .ref q5, .ref q6, .ref q7, .ref q8, .ref q9, .ref q10])), (q1, .inl (k0, 3000, .inl f109))] := hD
  refine lv_iinc (v := 0) (lv' := [(2, .int 0), (0, .ref q0), (1, .int p0)]) hx hb dX11_feedNumber_42 hl (k := 0) rfl (by decide) (by decide) rfl (fun ls hl => ?_)
  refine lv_goto (tgt := 3) hx hb dX11_feedNumber_45 (by decide) ?_
  refine lv_iload_n hx hb dX11_feedNumber_3 rfl (lv_at hl 0 rfl) ?_
  refine lv_if_lt (tgt := 48) hx hb dX11_feedNumber_4 (by decide) (fun c9 => absurd c9 (by decide)) (fun _ => ?_)
  refine lv_aload_n hx hb dX11_feedNumber_7 rfl (lv_at hl 1 rfl) ?_
  refine va_get (D := (dC, dI)) (ci := 11) (v := .int (nI (n0 + 7))) (C := RX11) (T := TX11) (N := 14) hx hb hts (fun w h => mc (in_X11 w h)) hown hK hP 0 rfl rfl 1 (by decide) (hts _ (mc m_5)) (fun _ h9 => h9) rfl dX11_feedNumber_8 ?_
  refine lv_aload_n hx hb dX11_feedNumber_11 rfl (lv_at hl 1 rfl) ?_
  refine va_get (D := (dC, dI)) (ci := 11) (v := .ref q1) (C := RX11) (T := TX11) (N := 14) hx hb hts (fun w h => mc (in_X11 w h)) hown hK hP 0 rfl rfl 0 (by decide) (hts _ (mc m_4)) (fun _ h9 => h9) rfl dX11_feedNumber_12 ?_
  refine va_alen (v := 3000) hx hb hK hP 1 0 rfl rfl (by first | rfl | decide) dX11_feedNumber_15 ?_
  refine lv_icmp_ge (tgt := 42) hx hb dX11_feedNumber_16 (by decide) (fun c9 => absurd c9 (nI_ge (b := 3000) (by omega) (by decide))) (fun _ => ?_)
  refine lv_aload_n hx hb dX11_feedNumber_19 rfl (lv_at hl 1 rfl) ?_
  refine va_get (D := (dC, dI)) (ci := 11) (v := .ref q1) (C := RX11) (T := TX11) (N := 14) hx hb hts (fun w h => mc (in_X11 w h)) hown hK hP 0 rfl rfl 0 (by decide) (hts _ (mc m_4)) (fun _ h9 => h9) rfl dX11_feedNumber_20 ?_
  refine lv_aload_n hx hb dX11_feedNumber_23 rfl (lv_at hl 1 rfl) ?_
  refine va_get (D := (dC, dI)) (ci := 11) (v := .int (nI (n0 + 7))) (C := RX11) (T := TX11) (N := 14) hx hb hts (fun w h => mc (in_X11 w h)) hown hK hP 0 rfl rfl 1 (by decide) (hts _ (mc m_5)) (fun _ h9 => h9) rfl dX11_feedNumber_24 ?_
  refine lv_iload_n hx hb dX11_feedNumber_27 rfl (lv_at hl 2 rfl) ?_
  refine lv_iload_n hx hb dX11_feedNumber_28 rfl (lv_at hl 0 rfl) ?_
  refine lv_ishr hx hb dX11_feedNumber_29 ?_
  refine lv_topi (fun x110 ex110 => ?_)
  refine lv_i2b hx hb dX11_feedNumber_30 rfl ?_
  refine lv_topi (fun x111 ex111 => ?_)
  refine va_bast hx hb hK hP hD hS 1 0 rfl rfl (vp_in_nI (by omega) (by decide)) dX11_feedNumber_31 (fun H locs hP hD hS => ?_)
  have hP : va_P (dC, dI) classes [(q0, .inr (11, [.ref q1, .int (nI (n0 + 7)), .ref q2, .ref q3, .ref q4, .int x0, .int x1, .int x2, .ref q5, .ref q6, .ref q7, .ref q8, .ref q9, .ref q10])), (q1, .inl (k0, 3000, .inl (upd f109 (Int32.toNatClampNeg (nI (n0 + 7))) (vp_nar .byte x111))))] H := hP
  have hD : va_D A [(q0, .inr (11, [.ref q1, .int (nI (n0 + 7)), .ref q2, .ref q3, .ref q4, .int x0, .int x1, .int x2, .ref q5, .ref q6, .ref q7, .ref q8, .ref q9, .ref q10])), (q1, .inl (k0, 3000, .inl (upd f109 (Int32.toNatClampNeg (nI (n0 + 7))) (vp_nar .byte x111))))] := hD
  obtain ⟨f112, ef112⟩ : ∃ z : Nat → Int32, z = (upd f109 (Int32.toNatClampNeg (nI (n0 + 7))) (vp_nar .byte x111)) := ⟨_, rfl⟩
  rw [← ef112] at hP hD
  have hP : va_P (dC, dI) classes [(q0, .inr (11, [.ref q1, .int (nI (n0 + 7)), .ref q2, .ref q3, .ref q4, .int x0, .int x1, .int x2, .ref q5, .ref q6, .ref q7, .ref q8, .ref q9, .ref q10])), (q1, .inl (k0, 3000, .inl f112))] H := hP
  have hD : va_D A [(q0, .inr (11, [.ref q1, .int (nI (n0 + 7)), .ref q2, .ref q3, .ref q4, .int x0, .int x1, .int x2, .ref q5, .ref q6, .ref q7, .ref q8, .ref q9, .ref q10])), (q1, .inl (k0, 3000, .inl f112))] := hD
  refine lv_aload_n hx hb dX11_feedNumber_32 rfl (lv_at hl 1 rfl) ?_
  refine lv_dup hx hb dX11_feedNumber_33 rfl ?_
  refine va_get (D := (dC, dI)) (ci := 11) (v := .int (nI (n0 + 7))) (C := RX11) (T := TX11) (N := 14) hx hb hts (fun w h => mc (in_X11 w h)) hown hK hP 0 rfl rfl 1 (by decide) (hts _ (mc m_5)) (fun _ h9 => h9) rfl dX11_feedNumber_34 ?_
  refine lv_iconst (v := 1) hx hb dX11_feedNumber_37 (by decide) ?_
  refine lv_iadd hx hb dX11_feedNumber_38 ?_
  refine q_topi (nI (n0 + 8)) (nI_add _ 1) ?_
  refine va_put (D := (dC, dI)) (ci := 11) (v := .int (nI (n0 + 8))) (ty := .int) (C := RX11) (T := TX11) (N := 14) hx hb hts (fun w h => mc (in_X11 w h)) tyX11 tyX11_ok nmX11 hown hK hP hD hS 0 rfl rfl 1 (by decide) (hts _ (mc m_5)) (fun _ h9 => h9) rfl (by decide +kernel) (by first | rfl | decide) (by first | rfl | decide) (Nat.le_of_ble_eq_true rfl) dX11_feedNumber_39 (fun H locs hP hD hS => ?_)
  have hP : va_P (dC, dI) classes [(q0, .inr (11, [.ref q1, .int (nI (n0 + 8)), .ref q2, .ref q3, .ref q4, .int x0, .int x1, .int x2, .ref q5, .ref q6, .ref q7, .ref q8, .ref q9, .ref q10])), (q1, .inl (k0, 3000, .inl f112))] H := hP
  have hD : va_D A [(q0, .inr (11, [.ref q1, .int (nI (n0 + 8)), .ref q2, .ref q3, .ref q4, .int x0, .int x1, .int x2, .ref q5, .ref q6, .ref q7, .ref q8, .ref q9, .ref q10])), (q1, .inl (k0, 3000, .inl f112))] := hD
  refine lv_iinc (v := (-8)) (lv' := [(2, .int (-8)), (0, .ref q0), (1, .int p0)]) hx hb dX11_feedNumber_42 hl (k := 0) rfl (by decide) (by decide) rfl (fun ls hl => ?_)
  refine lv_goto (tgt := 3) hx hb dX11_feedNumber_45 (by decide) ?_
  refine lv_iload_n hx hb dX11_feedNumber_3 rfl (lv_at hl 0 rfl) ?_
  refine lv_if_lt (tgt := 48) hx hb dX11_feedNumber_4 (by decide) (fun _ => ?_) (fun c9 => absurd (by decide) c9)
  exact W.vret hx hb hr (fun t ht hW => ⟨⟨(), rfl, trivial, f112, by rw [ht]; exact hP, va_K.moved hW.alike hK, hD⟩, hS.F ht⟩) hS.2.2 dX11_feedNumber_48
set_option maxHeartbeats 4000000 in
set_option maxRecDepth 100000 in
theorem c_X11_feedNumber_2 (l : Launch) (dC : Nat → ClassId) (dI : Nat → Nat → Nat) (q0 : Nat) (p0 : Int32) (q1 : Nat) (n0 : Nat) (q2 : Nat) (q3 : Nat) (q4 : Nat) (x0 : Int32) (x1 : Int32) (x2 : Int32) (q5 : Nat) (q6 : Nat) (q7 : Nat) (q8 : Nat) (q9 : Nat) (q10 : Nat) (k0 : ClassId) (f0 : Nat → Int32) (sz : Nat) (h1 : n0 + 20 ≤ 3000) : Met l yX11_feedNumber (.code yX11_feedNumber cX11_feedNumber 3 none :: bigW) { frames := 0, cells := 0, slots := 0, locals := 0 } (va_Pc [.ref q0, .int p0] (q_In dC dI [(q0, .inr (11, [.ref q1, .int (nI (n0 + 8)), .ref q2, .ref q3, .ref q4, .int x0, .int x1, .int x2, .ref q5, .ref q6, .ref q7, .ref q8, .ref q9, .ref q10])), (q1, .inl (k0, 3000, .inl f0))] [(k0, .byte)] sz)) (va_Qv (fun _ : Unit => True) (fun _ t => ∃ (f112 : Nat → Int32), va_P (dC, dI) classes [(q0, .inr (11, [.ref q1, .int (nI (n0 + 12)), .ref q2, .ref q3, .ref q4, .int x0, .int x1, .int x2, .ref q5, .ref q6, .ref q7, .ref q8, .ref q9, .ref q10])), (q1, .inl (k0, 3000, .inl f112))] t.heap ∧ va_K (dC, dI) classes [(k0, .byte)] t ∧ va_D (va_A [(q0, .inr (11, [.ref q1, .int (nI (n0 + 8)), .ref q2, .ref q3, .ref q4, .int x0, .int x1, .int x2, .ref q5, .ref q6, .ref q7, .ref q8, .ref q9, .ref q10])), (q1, .inl (k0, 3000, .inl f0))] sz) [(q0, .inr (11, [.ref q1, .int (nI (n0 + 12)), .ref q2, .ref q3, .ref q4, .int x0, .int x1, .int x2, .ref q5, .ref q6, .ref q7, .ref q8, .ref q9, .ref q10])), (q1, .inl (k0, 3000, .inl f112))]) (va_A [(q0, .inr (11, [.ref q1, .int (nI (n0 + 8)), .ref q2, .ref q3, .ref q4, .int x0, .int x1, .int x2, .ref q5, .ref q6, .ref q7, .ref q8, .ref q9, .ref q10])), (q1, .inl (k0, 3000, .inl f0))] sz)) 0 0 (va_A [(q0, .inr (11, [.ref q1, .int (nI (n0 + 8)), .ref q2, .ref q3, .ref q4, .int x0, .int x1, .int x2, .ref q5, .ref q6, .ref q7, .ref q8, .ref q9, .ref q10])), (q1, .inl (k0, 3000, .inl f0))] sz) := by
  refine Met.ofW (cc := cX11_feedNumber) (maxL := 3) (ret := none) (by decide) rfl ?_
  intro p e s m args below meth c s₁ B hml hv
  obtain ⟨rfl, hsz, hP, hK, hD0, hE⟩ := hv
  have hx := B.exec
  have hb := B.bytes
  have hr := B.returns
  have hts := atoms_spec (ws := .code yX11_feedNumber cX11_feedNumber 3 none :: bigW) B.pre
  have hown : s.vm.findClass RX11 = some m.cls := findClass_of_methodNamed B.named
  have hlocks := B.notSynchronized
  subst hsz
  have hD := hD0.self (sz := s.heap.size)
  generalize hAe : va_A [(q0, .inr (11, [.ref q1, .int (nI (n0 + 8)), .ref q2, .ref q3, .ref q4, .int x0, .int x1, .int x2, .ref q5, .ref q6, .ref q7, .ref q8, .ref q9, .ref q10])), (q1, .inl (k0, 3000, .inl f0))] s.heap.size = A at hD hE ⊢
  have hN : q_N s := hE.2.2.2.1
  have hA : ∀ q : Nat, s.heap.size ≤ q → A q := fun q h => by rw [← hAe]; exact Or.inr h
  have hS : va_S A s.heap s.heap [] := va_S.rf
  have hP : va_P (dC, dI) classes [(q0, .inr (11, [.ref q1, .int (nI (n0 + 8)), .ref q2, .ref q3, .ref q4, .int x0, .int x1, .int x2, .ref q5, .ref q6, .ref q7, .ref q8, .ref q9, .ref q10])), (q1, .inl (k0, 3000, .inl f0))] s.heap := hP
  have hl := lv_entry ([.ref q0, .int p0]) (n := 3) (Nat.le_of_ble_eq_true rfl)
  rw [lg_entry_eq]
  generalize (lg_sl ([.ref q0, .int p0]) ++ List.replicate (3 - (lg_sl ([.ref q0, .int p0])).length) Slot.unset).toArray = ls at hl ⊢
  have hl : lv_has ls 3 [(0, .ref q0), (1, .int p0)] := hl
  refine lv_bipush (v := 24) hx hb dX11_feedNumber_0 (by decide) ?_
  refine lv_istore_n (lv' := [(2, .int 24), (0, .ref q0), (1, .int p0)]) hx hb dX11_feedNumber_2 rfl hl (by decide) rfl (fun ls hl => ?_)
  refine lv_iload_n hx hb dX11_feedNumber_3 rfl (lv_at hl 0 rfl) ?_
  refine lv_if_lt (tgt := 48) hx hb dX11_feedNumber_4 (by decide) (fun c9 => absurd c9 (by decide)) (fun _ => ?_)
  refine lv_aload_n hx hb dX11_feedNumber_7 rfl (lv_at hl 1 rfl) ?_
  refine va_get (D := (dC, dI)) (ci := 11) (v := .int (nI (n0 + 8))) (C := RX11) (T := TX11) (N := 14) hx hb hts (fun w h => mc (in_X11 w h)) hown hK hP 0 rfl rfl 1 (by decide) (hts _ (mc m_5)) (fun _ h9 => h9) rfl dX11_feedNumber_8 ?_
  refine lv_aload_n hx hb dX11_feedNumber_11 rfl (lv_at hl 1 rfl) ?_
  refine va_get (D := (dC, dI)) (ci := 11) (v := .ref q1) (C := RX11) (T := TX11) (N := 14) hx hb hts (fun w h => mc (in_X11 w h)) hown hK hP 0 rfl rfl 0 (by decide) (hts _ (mc m_4)) (fun _ h9 => h9) rfl dX11_feedNumber_12 ?_
  refine va_alen (v := 3000) hx hb hK hP 1 0 rfl rfl (by first | rfl | decide) dX11_feedNumber_15 ?_
  refine lv_icmp_ge (tgt := 42) hx hb dX11_feedNumber_16 (by decide) (fun c9 => absurd c9 (nI_ge (b := 3000) (by omega) (by decide))) (fun _ => ?_)
  refine lv_aload_n hx hb dX11_feedNumber_19 rfl (lv_at hl 1 rfl) ?_
  refine va_get (D := (dC, dI)) (ci := 11) (v := .ref q1) (C := RX11) (T := TX11) (N := 14) hx hb hts (fun w h => mc (in_X11 w h)) hown hK hP 0 rfl rfl 0 (by decide) (hts _ (mc m_4)) (fun _ h9 => h9) rfl dX11_feedNumber_20 ?_
  refine lv_aload_n hx hb dX11_feedNumber_23 rfl (lv_at hl 1 rfl) ?_
  refine va_get (D := (dC, dI)) (ci := 11) (v := .int (nI (n0 + 8))) (C := RX11) (T := TX11) (N := 14) hx hb hts (fun w h => mc (in_X11 w h)) hown hK hP 0 rfl rfl 1 (by decide) (hts _ (mc m_5)) (fun _ h9 => h9) rfl dX11_feedNumber_24 ?_
  refine lv_iload_n hx hb dX11_feedNumber_27 rfl (lv_at hl 2 rfl) ?_
  refine lv_iload_n hx hb dX11_feedNumber_28 rfl (lv_at hl 0 rfl) ?_
  refine lv_ishr hx hb dX11_feedNumber_29 ?_
  refine lv_topi (fun x101 ex101 => ?_)
  refine lv_i2b hx hb dX11_feedNumber_30 rfl ?_
  refine lv_topi (fun x102 ex102 => ?_)
  refine va_bast hx hb hK hP hD hS 1 0 rfl rfl (vp_in_nI (by omega) (by decide)) dX11_feedNumber_31 (fun H locs hP hD hS => ?_)
  have hP : va_P (dC, dI) classes [(q0, .inr (11, [.ref q1, .int (nI (n0 + 8)), .ref q2, .ref q3, .ref q4, .int x0, .int x1, .int x2, .ref q5, .ref q6, .ref q7, .ref q8, .ref q9, .ref q10])), (q1, .inl (k0, 3000, .inl (upd f0 (Int32.toNatClampNeg (nI (n0 + 8))) (vp_nar .byte x102))))] H := hP
  have hD : va_D A [(q0, .inr (11, [.ref q1, .int (nI (n0 + 8)), .ref q2, .ref q3, .ref q4, .int x0, .int x1, .int x2, .ref q5, .ref q6, .ref q7, .ref q8, .ref q9, .ref q10])), (q1, .inl (k0, 3000, .inl (upd f0 (Int32.toNatClampNeg (nI (n0 + 8))) (vp_nar .byte x102))))] := hD
  obtain ⟨f103, ef103⟩ : ∃ z : Nat → Int32, z = (upd f0 (Int32.toNatClampNeg (nI (n0 + 8))) (vp_nar .byte x102)) := ⟨_, rfl⟩
  rw [← ef103] at hP hD
  have hP : va_P (dC, dI) classes [(q0, .inr (11, [.ref q1, .int (nI (n0 + 8)), .ref q2, .ref q3, .ref q4, .int x0, .int x1, .int x2, .ref q5, .ref q6, .ref q7, .ref q8, .ref q9, .ref q10])), (q1, .inl (k0, 3000, .inl f103))] H := hP
  have hD : va_D A [(q0, .inr (11, [.ref q1, .int (nI (n0 + 8)), .ref q2, .ref q3, .ref q4, .int x0, .int x1, .int x2, .ref q5, .ref q6, .ref q7, .ref q8, .ref q9, .ref q10])), (q1, .inl (k0, 3000, .inl f103))] := hD
  refine lv_aload_n hx hb dX11_feedNumber_32 rfl (lv_at hl 1 rfl) ?_
  refine lv_dup hx hb dX11_feedNumber_33 rfl ?_
  refine va_get (D := (dC, dI)) (ci := 11) (v := .int (nI (n0 + 8))) (C := RX11) (T := TX11) (N := 14) hx hb hts (fun w h => mc (in_X11 w h)) hown hK hP 0 rfl rfl 1 (by decide) (hts _ (mc m_5)) (fun _ h9 => h9) rfl dX11_feedNumber_34 ?_
  refine lv_iconst (v := 1) hx hb dX11_feedNumber_37 (by decide) ?_
  refine lv_iadd hx hb dX11_feedNumber_38 ?_
  refine q_topi (nI (n0 + 9)) (nI_add _ 1) ?_
  refine va_put (D := (dC, dI)) (ci := 11) (v := .int (nI (n0 + 9))) (ty := .int) (C := RX11) (T := TX11) (N := 14) hx hb hts (fun w h => mc (in_X11 w h)) tyX11 tyX11_ok nmX11 hown hK hP hD hS 0 rfl rfl 1 (by decide) (hts _ (mc m_5)) (fun _ h9 => h9) rfl (by decide +kernel) (by first | rfl | decide) (by first | rfl | decide) (Nat.le_of_ble_eq_true rfl) dX11_feedNumber_39 (fun H locs hP hD hS => ?_)
  have hP : va_P (dC, dI) classes [(q0, .inr (11, [.ref q1, .int (nI (n0 + 9)), .ref q2, .ref q3, .ref q4, .int x0, .int x1, .int x2, .ref q5, .ref q6, .ref q7, .ref q8, .ref q9, .ref q10])), (q1, .inl (k0, 3000, .inl f103))] H := hP
  have hD : va_D A [(q0, .inr (11, [.ref q1, .int (nI (n0 + 9)), .ref q2, .ref q3, .ref q4, .int x0, .int x1, .int x2, .ref q5, .ref q6, .ref q7, .ref q8, .ref q9, .ref q10])), (q1, .inl (k0, 3000, .inl f103))] := hD
  refine lv_iinc (v := 16) (lv' := [(2, .int 16), (0, .ref q0), (1, .int p0)]) hx hb dX11_feedNumber_42 hl (k := 0) rfl (by decide) (by decide) rfl (fun ls hl => ?_)
  refine lv_goto (tgt := 3) hx hb dX11_feedNumber_45 (by decide) ?_
  refine lv_iload_n hx hb dX11_feedNumber_3 rfl (lv_at hl 0 rfl) ?_
  refine lv_if_lt (tgt := 48) hx hb dX11_feedNumber_4 (by decide) (fun c9 => absurd c9 (by decide)) (fun _ => ?_)
  refine lv_aload_n hx hb dX11_feedNumber_7 rfl (lv_at hl 1 rfl) ?_
  refine va_get (D := (dC, dI)) (ci := 11) (v := .int (nI (n0 + 9))) (C := RX11) (T := TX11) (N := 14) hx hb hts (fun w h => mc (in_X11 w h)) hown hK hP 0 rfl rfl 1 (by decide) (hts _ (mc m_5)) (fun _ h9 => h9) rfl dX11_feedNumber_8 ?_
  refine lv_aload_n hx hb dX11_feedNumber_11 rfl (lv_at hl 1 rfl) ?_
  refine va_get (D := (dC, dI)) (ci := 11) (v := .ref q1) (C := RX11) (T := TX11) (N := 14) hx hb hts (fun w h => mc (in_X11 w h)) hown hK hP 0 rfl rfl 0 (by decide) (hts _ (mc m_4)) (fun _ h9 => h9) rfl dX11_feedNumber_12 ?_
  refine va_alen (v := 3000) hx hb hK hP 1 0 rfl rfl (by first | rfl | decide) dX11_feedNumber_15 ?_
  refine lv_icmp_ge (tgt := 42) hx hb dX11_feedNumber_16 (by decide) (fun c9 => absurd c9 (nI_ge (b := 3000) (by omega) (by decide))) (fun _ => ?_)
  refine lv_aload_n hx hb dX11_feedNumber_19 rfl (lv_at hl 1 rfl) ?_
  refine va_get (D := (dC, dI)) (ci := 11) (v := .ref q1) (C := RX11) (T := TX11) (N := 14) hx hb hts (fun w h => mc (in_X11 w h)) hown hK hP 0 rfl rfl 0 (by decide) (hts _ (mc m_4)) (fun _ h9 => h9) rfl dX11_feedNumber_20 ?_
  refine lv_aload_n hx hb dX11_feedNumber_23 rfl (lv_at hl 1 rfl) ?_
  refine va_get (D := (dC, dI)) (ci := 11) (v := .int (nI (n0 + 9))) (C := RX11) (T := TX11) (N := 14) hx hb hts (fun w h => mc (in_X11 w h)) hown hK hP 0 rfl rfl 1 (by decide) (hts _ (mc m_5)) (fun _ h9 => h9) rfl dX11_feedNumber_24 ?_
  refine lv_iload_n hx hb dX11_feedNumber_27 rfl (lv_at hl 2 rfl) ?_
  refine lv_iload_n hx hb dX11_feedNumber_28 rfl (lv_at hl 0 rfl) ?_
  refine lv_ishr hx hb dX11_feedNumber_29 ?_
  refine lv_topi (fun x104 ex104 => ?_)
  refine lv_i2b hx hb dX11_feedNumber_30 rfl ?_
  refine lv_topi (fun x105 ex105 => ?_)
  refine va_bast hx hb hK hP hD hS 1 0 rfl rfl (vp_in_nI (by omega) (by decide)) dX11_feedNumber_31 (fun H locs hP hD hS => ?_)
  have hP : va_P (dC, dI) classes [(q0, .inr (11, [.ref q1, .int (nI (n0 + 9)), .ref q2, .ref q3, .ref q4, .int x0, .int x1, .int x2, .ref q5, .ref q6, .ref q7, .ref q8, .ref q9, .ref q10])), (q1, .inl (k0, 3000, .inl (upd f103 (Int32.toNatClampNeg (nI (n0 + 9))) (vp_nar .byte x105))))] H := hP
  have hD : va_D A [(q0, .inr (11, [.ref q1, .int (nI (n0 + 9)), .ref q2, .ref q3, .ref q4, .int x0, .int x1, .int x2, .ref q5, .ref q6, .ref q7, .ref q8, .ref q9, .ref q10])), (q1, .inl (k0, 3000, .inl (upd f103 (Int32.toNatClampNeg (nI (n0 + 9))) (vp_nar .byte x105))))] := hD
  obtain ⟨f106, ef106⟩ : ∃ z : Nat → Int32, z = (upd f103 (Int32.toNatClampNeg (nI (n0 + 9))) (vp_nar .byte x105)) := ⟨_, rfl⟩
  rw [← ef106] at hP hD
  have hP : va_P (dC, dI) classes [(q0, .inr (11, [.ref q1, .int (nI (n0 + 9)), .ref q2, .ref q3, .ref q4, .int x0, .int x1, .int x2, .ref q5, .ref q6, .ref q7, .ref q8, .ref q9, .ref q10])), (q1, .inl (k0, 3000, .inl f106))] H := hP
  have hD : va_D A [(q0, .inr (11, [.ref q1, .int (nI (n0 + 9)), .ref q2, .ref q3, .ref q4, .int x0, .int x1, .int x2, .ref q5, .ref q6, .ref q7, .ref q8, .ref q9, .ref q10])), (q1, .inl (k0, 3000, .inl f106))] := hD
  refine lv_aload_n hx hb dX11_feedNumber_32 rfl (lv_at hl 1 rfl) ?_
  refine lv_dup hx hb dX11_feedNumber_33 rfl ?_
  refine va_get (D := (dC, dI)) (ci := 11) (v := .int (nI (n0 + 9))) (C := RX11) (T := TX11) (N := 14) hx hb hts (fun w h => mc (in_X11 w h)) hown hK hP 0 rfl rfl 1 (by decide) (hts _ (mc m_5)) (fun _ h9 => h9) rfl dX11_feedNumber_34 ?_
  refine lv_iconst (v := 1) hx hb dX11_feedNumber_37 (by decide) ?_
  refine lv_iadd hx hb dX11_feedNumber_38 ?_
  refine q_topi (nI (n0 + 10)) (nI_add _ 1) ?_
  refine va_put (D := (dC, dI)) (ci := 11) (v := .int (nI (n0 + 10))) (ty := .int) (C := RX11) (T := TX11) (N := 14) hx hb hts (fun w h => mc (in_X11 w h)) tyX11 tyX11_ok nmX11 hown hK hP hD hS 0 rfl rfl 1 (by decide) (hts _ (mc m_5)) (fun _ h9 => h9) rfl (by decide +kernel) (by first | rfl | decide) (by first | rfl | decide) (Nat.le_of_ble_eq_true rfl) dX11_feedNumber_39 (fun H locs hP hD hS => ?_)
  have hP : va_P (dC, dI) classes [(q0, .inr (11, [.ref q1, .int (nI (n0 + 10)), .ref q2, .ref q3, .ref q4, .int x0, .int x1, .int x2, .ref q5, .ref q6, .ref q7, .ref q8, .ref q9, .ref q10])), (q1, .inl (k0, 3000, .inl f106))] H := hP
  have hD : va_D A [(q0, .inr (11, [.ref q1, .int (nI (n0 + 10)), .ref q2, .ref q3, .ref q4, .int x0, .int x1, .int x2, .ref q5, .ref q6, .ref q7, .ref q8, .ref q9, .ref q10])), (q1, .inl (k0, 3000, .inl f106))] := hD
  refine lv_iinc (v := 8) (lv' := [(2, .int 8), (0, .ref q0), (1, .int p0)]) hx hb dX11_feedNumber_42 hl (k := 0) rfl (by decide) (by decide) rfl (fun ls hl => ?_)
  refine lv_goto (tgt := 3) hx hb dX11_feedNumber_45 (by decide) ?_
  refine lv_iload_n hx hb dX11_feedNumber_3 rfl (lv_at hl 0 rfl) ?_
  refine lv_if_lt (tgt := 48) hx hb dX11_feedNumber_4 (by decide) (fun c9 => absurd c9 (by decide)) (fun _ => ?_)
  refine lv_aload_n hx hb dX11_feedNumber_7 rfl (lv_at hl 1 rfl) ?_
  refine va_get (D := (dC, dI)) (ci := 11) (v := .int (nI (n0 + 10))) (C := RX11) (T := TX11) (N := 14) hx hb hts (fun w h => mc (in_X11 w h)) hown hK hP 0 rfl rfl 1 (by decide) (hts _ (mc m_5)) (fun _ h9 => h9) rfl dX11_feedNumber_8 ?_
  refine lv_aload_n hx hb dX11_feedNumber_11 rfl (lv_at hl 1 rfl) ?_
  refine va_get (D := (dC, dI)) (ci := 11) (v := .ref q1) (C := RX11) (T := TX11) (N := 14) hx hb hts (fun w h => mc (in_X11 w h)) hown hK hP 0 rfl rfl 0 (by decide) (hts _ (mc m_4)) (fun _ h9 => h9) rfl dX11_feedNumber_12 ?_
  refine va_alen (v := 3000) hx hb hK hP 1 0 rfl rfl (by first | rfl | decide) dX11_feedNumber_15 ?_
  refine lv_icmp_ge (tgt := 42) hx hb dX11_feedNumber_16 (by decide) (fun c9 => absurd c9 (nI_ge (b := 3000) (by omega) (by decide))) (fun _ => ?_)
  refine lv_aload_n hx hb dX11_feedNumber_19 rfl (lv_at hl 1 rfl) ?_
  refine va_get (D := (dC, dI)) (ci := 11) (v := .ref q1) (C := RX11) (T := TX11) (N := 14) hx hb hts (fun w h => mc (in_X11 w h)) hown hK hP 0 rfl rfl 0 (by decide) (hts _ (mc m_4)) (fun _ h9 => h9) rfl dX11_feedNumber_20 ?_
  refine lv_aload_n hx hb dX11_feedNumber_23 rfl (lv_at hl 1 rfl) ?_
  refine va_get (D := (dC, dI)) (ci := 11) (v := .int (nI (n0 + 10))) (C := RX11) (T := TX11) (N := 14) hx hb hts (fun w h => mc (in_X11 w h)) hown hK hP 0 rfl rfl 1 (by decide) (hts _ (mc m_5)) (fun _ h9 => h9) rfl dX11_feedNumber_24 ?_
  refine lv_iload_n hx hb dX11_feedNumber_27 rfl (lv_at hl 2 rfl) ?_
  refine lv_iload_n hx hb dX11_feedNumber_28 rfl (lv_at hl 0 rfl) ?_
  refine lv_ishr hx hb dX11_feedNumber_29 ?_
  refine lv_topi (fun x107 ex107 => ?_)
  refine lv_i2b hx hb dX11_feedNumber_30 rfl ?_
  refine lv_topi (fun x108 ex108 => ?_)
  refine va_bast hx hb hK hP hD hS 1 0 rfl rfl (vp_in_nI (by omega) (by decide)) dX11_feedNumber_31 (fun H locs hP hD hS => ?_)
  have hP : va_P (dC, dI) classes [(q0, .inr (11, [.ref q1, .int (nI (n0 + 10)), .ref q2, .ref q3, .ref q4, .int x0, .int x1, .int x2, .ref q5, .ref q6, .ref q7, .ref q8, .ref q9, .ref q10])), (q1, .inl (k0, 3000, .inl (upd f106 (Int32.toNatClampNeg (nI (n0 + 10))) (vp_nar .byte x108))))] H := hP
  have hD : va_D A [(q0, .inr (11, [.ref q1, .int (nI (n0 + 10)), .ref q2, .ref q3, .ref q4, .int x0, .int x1, .int x2, .ref q5, .ref q6, .ref q7, .ref q8, .ref q9, .ref q10])), (q1, .inl (k0, 3000, .inl (upd f106 (Int32.toNatClampNeg (nI (n0 + 10))) (vp_nar .byte x108))))] := hD
  obtain ⟨f109, ef109⟩ : ∃ z : Nat → Int32, z = (upd f106 (Int32.toNatClampNeg (nI (n0 + 10))) (vp_nar .byte x108)) := ⟨_, rfl⟩
  rw [← ef109] at hP hD
  have hP : va_P (dC, dI) classes [(q0, .inr (11, [.ref q1, .int (nI (n0 + 10)), .ref q2, .ref q3, .ref q4, .int x0, .int x1, .int x2, .ref q5, .ref q6, .ref q7, .ref q8, .ref q9, .ref q10])), (q1, .inl (k0, 3000, .inl f109))] H := hP
  have hD : va_D A [(q0, .inr (11, [.ref q1, .int (nI (n0 + 10)), .ref q2, .ref q3, .ref q4, .int x0, .int x1, .int x2, .ref q5, .ref q6, .ref q7, .ref q8, .ref q9, .ref q10])), (q1, .inl (k0, 3000, .inl f109))] := hD
  refine lv_aload_n hx hb dX11_feedNumber_32 rfl (lv_at hl 1 rfl) ?_
  refine lv_dup hx hb dX11_feedNumber_33 rfl ?_
  refine va_get (D := (dC, dI)) (ci := 11) (v := .int (nI (n0 + 10))) (C := RX11) (T := TX11) (N := 14) hx hb hts (fun w h => mc (in_X11 w h)) hown hK hP 0 rfl rfl 1 (by decide) (hts _ (mc m_5)) (fun _ h9 => h9) rfl dX11_feedNumber_34 ?_
  refine lv_iconst (v := 1) hx hb dX11_feedNumber_37 (by decide) ?_
  refine lv_iadd hx hb dX11_feedNumber_38 ?_
  refine q_topi (nI (n0 + 11)) (nI_add _ 1) ?_
  refine va_put (D := (dC, dI)) (ci := 11) (v := .int (nI (n0 + 11))) (ty := .int) (C := RX11) (T := TX11) (N := 14) hx hb hts (fun w h => mc (in_X11 w h)) tyX11 tyX11_ok nmX11 hown hK hP hD hS 0 rfl rfl 1 (by decide) (hts _ (mc m_5)) (fun _ h9 => h9) rfl (by decide +kernel) (by first | rfl | decide) (by first | rfl | decide) (Nat.le_of_ble_eq_true rfl) dX11_feedNumber_39 (fun H locs hP hD hS => ?_)
  have hP : va_P (dC, dI) classes [(q0, .inr (11, [.ref q1, .int (nI (n0 + 11)), .ref q2, .ref q3, .ref q4, .int x0, .int x1, .int x2, .ref q5, .ref q6, .ref q7, .ref q8, .ref q9, .ref q10])), (q1, .inl (k0, 3000, .inl f109))] H := hP
  have hD : va_D A [(q0, .inr (11, [.ref q1, .int (nI (n0 + 11)), .ref q2, .ref q3, .ref q4, .int x0, .int x1, .int x2, .ref q5, .ref q6, .ref q7, .ref q8, .ref q9, .ref q10])), (q1, .inl (k0, 3000, .inl f109))] := hD
  refine lv_iinc (v := 0) (lv' := [(2, .int 0), (0, .ref q0), (1, .int p0)]) hx hb dX11_feedNumber_42 hl (k := 0) rfl (by decide) (by decide) rfl (fun ls hl => ?_)
  refine lv_goto (tgt := 3) hx hb dX11_feedNumber_45 (by decide) ?_
  refine lv_iload_n hx hb dX11_feedNumber_3 rfl (lv_at hl 0 rfl) ?_
  refine lv_if_lt (tgt := 48) hx hb dX11_feedNumber_4 (by decide) (fun c9 => absurd c9 (by decide)) (fun _ => ?_)
  refine lv_aload_n hx hb dX11_feedNumber_7 rfl (lv_at hl 1 rfl) ?_
  refine va_get (D := (dC, dI)) (ci := 11) (v := .int (nI (n0 + 11))) (C := RX11) (T := TX11) (N := 14) hx hb hts (fun w h => mc (in_X11 w h)) hown hK hP 0 rfl rfl 1 (by decide) (hts _ (mc m_5)) (fun _ h9 => h9) rfl dX11_feedNumber_8 ?_
  refine lv_aload_n hx hb dX11_feedNumber_11 rfl (lv_at hl 1 rfl) ?_
  refine va_get (D := (dC, dI)) (ci := 11) (v := .ref q1) (C := RX11) (T := TX11) (N := 14) hx hb hts (fun w h => mc (in_X11 w h)) hown hK hP 0 rfl rfl 0 (by decide) (hts _ (mc m_4)) (fun _ h9 => h9) rfl dX11_feedNumber_12 ?_
  refine va_alen (v := 3000) hx hb hK hP 1 0 rfl rfl (by first | rfl | decide) dX11_feedNumber_15 ?_
  refine lv_icmp_ge (tgt := 42) hx hb dX11_feedNumber_16 (by decide) (fun c9 => absurd c9 (nI_ge (b := 3000) (by omega) (by decide))) (fun _ => ?_)
  refine lv_aload_n hx hb dX11_feedNumber_19 rfl (lv_at hl 1 rfl) ?_
  refine va_get (D := (dC, dI)) (ci := 11) (v := .ref q1) (C := RX11) (T := TX11) (N := 14) hx hb hts (fun w h => mc (in_X11 w h)) hown hK hP 0 rfl rfl 0 (by decide) (hts _ (mc m_4)) (fun _ h9 => h9) rfl dX11_feedNumber_20 ?_
  refine lv_aload_n hx hb dX11_feedNumber_23 rfl (lv_at hl 1 rfl) ?_
  refine va_get (D := (dC, dI)) (ci := 11) (v := .int (nI (n0 + 11))) (C := RX11) (T := TX11) (N := 14) hx hb hts (fun w h => mc (in_X11 w h)) hown hK hP 0 rfl rfl 1 (by decide) (hts _ (mc m_5)) (fun _ h9 => h9) rfl dX11_feedNumber_24 ?_
  refine lv_iload_n hx hb dX11_feedNumber_27 rfl (lv_at hl 2 rfl) ?_
  refine lv_iload_n hx hb dX11_feedNumber_28 rfl (lv_at hl 0 rfl) ?_
  refine lv_ishr hx hb dX11_feedNumber_29 ?_
  refine lv_topi (fun x110 ex110 => ?_)
  refine lv_i2b hx hb dX11_feedNumber_30 rfl ?_
  refine lv_topi (fun x111 ex111 => ?_)
  refine va_bast hx hb hK hP hD hS 1 0 rfl rfl (vp_in_nI (by omega) (by decide)) dX11_feedNumber_31 (fun H locs hP hD hS => ?_)
  have hP : va_P (dC, dI) classes [(q0, .inr (11, [.ref q1, .int (nI (n0 + 11)), .ref q2, .ref q3, .ref q4, .int x0, .int x1, .int x2, .ref q5, .ref q6, .ref q7, .ref q8, .ref q9, .ref q10])), (q1, .inl (k0, 3000, .inl (upd f109 (Int32.toNatClampNeg (nI (n0 + 11))) (vp_nar .byte x111))))] H := hP
  have hD : va_D A [(q0, .inr (11, [.ref q1, .int (nI (n0 + 11)), .ref q2, .ref q3, .ref q4, .int x0, .int x1, .int x2, .ref q5, .ref q6, .ref q7, .ref q8, .ref q9, .ref q10])), (q1, .inl (k0, 3000, .inl (upd f109 (Int32.toNatClampNeg (nI (n0 + 11))) (vp_nar .byte x111))))] := hD
  obtain ⟨f112, ef112⟩ : ∃ z : Nat → Int32, z = (upd f109 (Int32.toNatClampNeg (nI (n0 + 11))) (vp_nar .byte x111)) := ⟨_, rfl⟩
  rw [← ef112] at hP hD
  have hP : va_P (dC, dI) classes [(q0, .inr (11, [.ref q1, .int (nI (n0 + 11)), .ref q2, .ref q3, .ref q4, .int x0, .int x1, .int x2, .ref q5, .ref q6, .ref q7, .ref q8, .ref q9, .ref q10])), (q1, .inl (k0, 3000, .inl f112))] H := hP
  have hD : va_D A [(q0, .inr (11, [.ref q1, .int (nI (n0 + 11)), .ref q2, .ref q3, .ref q4, .int x0, .int x1, .int x2, .ref q5, .ref q6, .ref q7, .ref q8, .ref q9, .ref q10])), (q1, .inl (k0, 3000, .inl f112))] := hD
  refine lv_aload_n hx hb dX11_feedNumber_32 rfl (lv_at hl 1 rfl) ?_
  refine lv_dup hx hb dX11_feedNumber_33 rfl ?_
  refine va_get (D := (dC, dI)) (ci := 11) (v := .int (nI (n0 + 11))) (C := RX11) (T := TX11) (N := 14) hx hb hts (fun w h => mc (in_X11 w h)) hown hK hP 0 rfl rfl 1 (by decide) (hts _ (mc m_5)) (fun _ h9 => h9) rfl dX11_feedNumber_34 ?_
  refine lv_iconst (v := 1) hx hb dX11_feedNumber_37 (by decide) ?_
  refine lv_iadd hx hb dX11_feedNumber_38 ?_
  refine q_topi (nI (n0 + 12)) (nI_add _ 1) ?_
  refine va_put (D := (dC, dI)) (ci := 11) (v := .int (nI (n0 + 12))) (ty := .int) (C := RX11) (T := TX11) (N := 14) hx hb hts (fun w h => mc (in_X11 w h)) tyX11 tyX11_ok nmX11 hown hK hP hD hS 0 rfl rfl 1 (by decide) (hts _ (mc m_5)) (fun _ h9 => h9) rfl (by decide +kernel) (by first | rfl | decide) (by first | rfl | decide) (Nat.le_of_ble_eq_true rfl) dX11_feedNumber_39 (fun H locs hP hD hS => ?_)
  have hP : va_P (dC, dI) classes [(q0, .inr (11, [.ref q1, .int (nI (n0 + 12)), .ref q2, .ref q3, .ref q4, .int x0, .int x1, .int x2, .ref q5, .ref q6, .ref q7, .ref q8, .ref q9, .ref q10])), (q1, .inl (k0, 3000, .inl f112))] H := hP
  have hD : va_D A [(q0, .inr (11, [.ref q1, .int (nI (n0 + 12)), .ref q2, .ref q3, .ref q4, .int x0, .int x1, .int x2, .ref q5, .ref q6, .ref q7, .ref q8, .ref q9, .ref q10])), (q1, .inl (k0, 3000, .inl f112))] := hD
  refine lv_iinc (v := (-8)) (lv' := [(2, .int (-8)), (0, .ref q0), (1, .int p0)]) hx hb dX11_feedNumber_42 hl (k := 0) rfl (by decide) (by decide) rfl (fun ls hl => ?_)
  refine lv_goto (tgt := 3) hx hb dX11_feedNumber_45 (by decide) ?_
  refine lv_iload_n hx hb dX11_feedNumber_3 rfl (lv_at hl 0 rfl) ?_
  refine lv_if_lt (tgt := 48) hx hb dX11_feedNumber_4 (by decide) (fun _ => ?_) (fun c9 => absurd (by decide) c9)
  exact W.vret hx hb hr (fun t ht hW => ⟨⟨(), rfl, trivial, f112, by rw [ht]; exact hP, va_K.moved hW.alike hK, hD⟩, hS.F ht⟩) hS.2.2 dX11_feedNumber_48
set_option maxHeartbeats 4000000 in
set_option maxRecDepth 100000 in
theorem c_X11_feedNumber_3 (l : Launch) (dC : Nat → ClassId) (dI : Nat → Nat → Nat) (q0 : Nat) (p0 : Int32) (q1 : Nat) (n0 : Nat) (q2 : Nat) (q3 : Nat) (q4 : Nat) (x0 : Int32) (x1 : Int32) (x2 : Int32) (q5 : Nat) (q6 : Nat) (q7 : Nat) (q8 : Nat) (q9 : Nat) (q10 : Nat) (k0 : ClassId) (f0 : Nat → Int32) (sz : Nat) (h1 : n0 + 20 ≤ 3000) : Met l yX11_feedNumber (.code yX11_feedNumber cX11_feedNumber 3 none :: bigW) { frames := 0, cells := 0, slots := 0, locals := 0 } (va_Pc [.ref q0, .int p0] (q_In dC dI [(q0, .inr (11, [.ref q1, .int (nI (n0 + 12)), .ref q2, .ref q3, .ref q4, .int x0, .int x1, .int x2, .ref q5, .ref q6, .ref q7, .ref q8, .ref q9, .ref q10])), (q1, .inl (k0, 3000, .inl f0))] [(k0, .byte)] sz)) (va_Qv (fun _ : Unit => True) (fun _ t => ∃ (f112 : Nat → Int32), va_P (dC, dI) classes [(q0, .inr (11, [.ref q1, .int (nI (n0 + 16)), .ref q2, .ref q3, .ref q4, .int x0, .int x1, .int x2, .ref q5, .ref q6, .ref q7, .ref q8, .ref q9, .ref q10])), (q1, .inl (k0, 3000, .inl f112))] t.heap ∧ va_K (dC, dI) classes [(k0, .byte)] t ∧ va_D (va_A [(q0, .inr (11, [.ref q1, .int (nI (n0 + 12)), .ref q2, .ref q3, .ref q4, .int x0, .int x1, .int x2, .ref q5, .ref q6, .ref q7, .ref q8, .ref q9, .ref q10])), (q1, .inl (k0, 3000, .inl f0))] sz) [(q0, .inr (11, [.ref q1, .int (nI (n0 + 16)), .ref q2, .ref q3, .ref q4, .int x0, .int x1, .int x2, .ref q5, .ref q6, .ref q7, .ref q8, .ref q9, .ref q10])), (q1, .inl (k0, 3000, .inl f112))]) (va_A [(q0, .inr (11, [.ref q1, .int (nI (n0 + 12)), .ref q2, .ref q3, .ref q4, .int x0, .int x1, .int x2, .ref q5, .ref q6, .ref q7, .ref q8, .ref q9, .ref q10])), (q1, .inl (k0, 3000, .inl f0))] sz)) 0 0 (va_A [(q0, .inr (11, [.ref q1, .int (nI (n0 + 12)), .ref q2, .ref q3, .ref q4, .int x0, .int x1, .int x2, .ref q5, .ref q6, .ref q7, .ref q8, .ref q9, .ref q10])), (q1, .inl (k0, 3000, .inl f0))] sz) := by
  refine Met.ofW (cc := cX11_feedNumber) (maxL := 3) (ret := none) (by decide) rfl ?_
  intro p e s m args below meth c s₁ B hml hv
  obtain ⟨rfl, hsz, hP, hK, hD0, hE⟩ := hv
  have hx := B.exec
  have hb := B.bytes
  have hr := B.returns
  have hts := atoms_spec (ws := .code yX11_feedNumber cX11_feedNumber 3 none :: bigW) B.pre
  have hown : s.vm.findClass RX11 = some m.cls := findClass_of_methodNamed B.named
  have hlocks := B.notSynchronized
  subst hsz
  have hD := hD0.self (sz := s.heap.size)
  generalize hAe : va_A [(q0, .inr (11, [.ref q1, .int (nI (n0 + 12)), .ref q2, .ref q3, .ref q4, .int x0, .int x1, .int x2, .ref q5, .ref q6, .ref q7, .ref q8, .ref q9, .ref q10])), (q1, .inl (k0, 3000, .inl f0))] s.heap.size = A at hD hE ⊢
  have hN : q_N s := hE.2.2.2.1
  have hA : ∀ q : Nat, s.heap.size ≤ q → A q := fun q h => by rw [← hAe]; exact Or.inr h
  have hS : va_S A s.heap s.heap [] := va_S.rf
  have hP : va_P (dC, dI) classes [(q0, .inr (11, [.ref q1, .int (nI (n0 + 12)), .ref q2, .ref q3, .ref q4, .int x0, .int x1, .int x2, .ref q5, .ref q6, .ref q7, .ref q8, .ref q9, .ref q10])), (q1, .inl (k0, 3000, .inl f0))] s.heap := hP
  have hl := lv_entry ([.ref q0, .int p0]) (n := 3) (Nat.le_of_ble_eq_true rfl)
  rw [lg_entry_eq]
  generalize (lg_sl ([.ref q0, .int p0]) ++ List.replicate (3 - (lg_sl ([.ref q0, .int p0])).length) Slot.unset).toArray = ls at hl ⊢
  have hl : lv_has ls 3 [(0, .ref q0), (1, .int p0)] := hl
  refine lv_bipush (v := 24) hx hb dX11_feedNumber_0 (by decide) ?_
  refine lv_istore_n (lv' := [(2, .int 24), (0, .ref q0), (1, .int p0)]) hx hb dX11_feedNumber_2 rfl hl (by decide) rfl (fun ls hl => ?_)
  refine lv_iload_n hx hb dX11_feedNumber_3 rfl (lv_at hl 0 rfl) ?_
  refine lv_if_lt (tgt := 48) hx hb dX11_feedNumber_4 (by decide) (fun c9 => absurd c9 (by decide)) (fun _ => ?_)
  refine lv_aload_n hx hb dX11_feedNumber_7 rfl (lv_at hl 1 rfl) ?_
  refine va_get (D := (dC, dI)) (ci := 11) (v := .int (nI (n0 + 12))) (C := RX11) (T := TX11) (N := 14) hx hb hts (fun w h => mc (in_X11 w h)) hown hK hP 0 rfl rfl 1 (by decide) (hts _ (mc m_5)) (fun _ h9 => h9) rfl dX11_feedNumber_8 ?_
  refine lv_aload_n hx hb dX11_feedNumber_11 rfl (lv_at hl 1 rfl) ?_
  refine va_get (D := (dC, dI)) (ci := 11) (v := .ref q1) (C := RX11) (T := TX11) (N := 14) hx hb hts (fun w h => mc (in_X11 w h)) hown hK hP 0 rfl rfl 0 (by decide) (hts _ (mc m_4)) (fun _ h9 => h9) rfl dX11_feedNumber_12 ?_
  refine va_alen (v := 3000) hx hb hK hP 1 0 rfl rfl (by first | rfl | decide) dX11_feedNumber_15 ?_
  refine lv_icmp_ge (tgt := 42) hx hb dX11_feedNumber_16 (by decide) (fun c9 => absurd c9 (nI_ge (b := 3000) (by omega) (by decide))) (fun _ => ?_)
  refine lv_aload_n hx hb dX11_feedNumber_19 rfl (lv_at hl 1 rfl) ?_
  refine va_get (D := (dC, dI)) (ci := 11) (v := .ref q1) (C := RX11) (T := TX11) (N := 14) hx hb hts (fun w h => mc (in_X11 w h)) hown hK hP 0 rfl rfl 0 (by decide) (hts _ (mc m_4)) (fun _ h9 => h9) rfl dX11_feedNumber_20 ?_
  refine lv_aload_n hx hb dX11_feedNumber_23 rfl (lv_at hl 1 rfl) ?_
  refine va_get (D := (dC, dI)) (ci := 11) (v := .int (nI (n0 + 12))) (C := RX11) (T := TX11) (N := 14) hx hb hts (fun w h => mc (in_X11 w h)) hown hK hP 0 rfl rfl 1 (by decide) (hts _ (mc m_5)) (fun _ h9 => h9) rfl dX11_feedNumber_24 ?_
  refine lv_iload_n hx hb dX11_feedNumber_27 rfl (lv_at hl 2 rfl) ?_
  refine lv_iload_n hx hb dX11_feedNumber_28 rfl (lv_at hl 0 rfl) ?_
  refine lv_ishr hx hb dX11_feedNumber_29 ?_
  refine lv_topi (fun x101 ex101 => ?_)
  refine lv_i2b hx hb dX11_feedNumber_30 rfl ?_
  refine lv_topi (fun x102 ex102 => ?_)
  refine va_bast hx hb hK hP hD hS 1 0 rfl rfl (vp_in_nI (by omega) (by decide)) dX11_feedNumber_31 (fun H locs hP hD hS => ?_)
  have hP : va_P (dC, dI) classes [(q0, .inr (11, [.ref q1, .int (nI (n0 + 12)), .ref q2, .ref q3, .ref q4, .int x0, .int x1, .int x2, .ref q5, .ref q6, .ref q7, .ref q8, .ref q9, .ref q10])), (q1, .inl (k0, 3000, .inl (upd f0 (Int32.toNatClampNeg (nI (n0 + 12))) (vp_nar .byte x102))))] H := hP
  have hD : va_D A [(q0, .inr (11, [.ref q1, .int (nI (n0 + 12)), .ref q2, .ref q3, .ref q4, .int x0, .int x1, .int x2, .ref q5, .ref q6, .ref q7, .ref q8, .ref q9, .ref q10])), (q1, .inl (k0, 3000, .inl (upd f0 (Int32.toNatClampNeg (nI (n0 + 12))) (vp_nar .byte x102))))] := hD
  obtain ⟨f103, ef103⟩ : ∃ z : Nat → Int32, z = (upd f0 (Int32.toNatClampNeg (nI (n0 + 12))) (vp_nar .byte x102)) := ⟨_, rfl⟩
  rw [← ef103] at hP hD
  have hP : va_P (dC, dI) classes [(q0, .inr (11, [.ref q1, .int (nI (n0 + 12)), .ref q2, .ref q3, .ref q4, .int x0, .int x1, .int x2, .ref q5, .ref q6, .ref q7, .ref q8, .ref q9, .ref q10])), (q1, .inl (k0, 3000, .inl f103))] H := hP
  have hD : va_D A [(q0, .inr (11, [.ref q1, .int (nI (n0 + 12)), .ref q2, .ref q3, .ref q4, .int x0, .int x1, .int x2, .ref q5, .ref q6, .ref q7, .ref q8, .ref q9, .ref q10])), (q1, .inl (k0, 3000, .inl f103))] := hD
  refine lv_aload_n hx hb dX11_feedNumber_32 rfl (lv_at hl 1 rfl) ?_
  refine lv_dup hx hb dX11_feedNumber_33 rfl ?_
  refine va_get (D := (dC, dI)) (ci := 11) (v := .int (nI (n0 + 12))) (C := RX11) (T := TX11) (N := 14) hx hb hts (fun w h => mc (in_X11 w h)) hown hK hP 0 rfl rfl 1 (by decide) (hts _ (mc m_5)) (fun _ h9 => h9) rfl dX11_feedNumber_34 ?_
  refine lv_iconst (v := 1) hx hb dX11_feedNumber_37 (by decide) ?_
  refine lv_iadd hx hb dX11_feedNumber_38 ?_
  refine q_topi (nI (n0 + 13)) (nI_add _ 1) ?_
  refine va_put (D := (dC, dI)) (ci := 11) (v := .int (nI (n0 + 13))) (ty := .int) (C := RX11) (T := TX11) (N := 14) hx hb hts (fun w h => mc (in_X11 w h)) tyX11 tyX11_ok nmX11 hown hK hP hD hS 0 rfl rfl 1 (by decide) (hts _ (mc m_5)) (fun _ h9 => h9) rfl (by decide +kernel) (by first | rfl | decide) (by first | rfl | decide) (Nat.le_of_ble_eq_true rfl) dX11_feedNumber_39 (fun H locs hP hD hS => ?_)
  have hP : va_P (dC, dI) classes [(q0, .inr (11, [.ref q1, .int (nI (n0 + 13)), .ref q2, .ref q3, .ref q4, .int x0, .int x1, .int x2, .ref q5, .ref q6, .ref q7, .ref q8, .ref q9, .ref q10])), (q1, .inl (k0, 3000, .inl f103))] H := hP
  have hD : va_D A [(q0, .inr (11, [.ref q1, .int (nI (n0 + 13)), .ref q2, .ref q3, .ref q4, .int x0, .int x1, .int x2, .ref q5, .ref q6, .ref q7, .ref q8, .ref q9, .ref q10])), (q1, .inl (k0, 3000, .inl f103))] := hD
  refine lv_iinc (v := 16) (lv' := [(2, .int 16), (0, .ref q0), (1, .int p0)]) hx hb dX11_feedNumber_42 hl (k := 0) rfl (by decide) (by decide) rfl (fun ls hl => ?_)
  refine lv_goto (tgt := 3) hx hb dX11_feedNumber_45 (by decide) ?_
  refine lv_iload_n hx hb dX11_feedNumber_3 rfl (lv_at hl 0 rfl) ?_
  refine lv_if_lt (tgt := 48) hx hb dX11_feedNumber_4 (by decide) (fun c9 => absurd c9 (by decide)) (fun _ => ?_)
  refine lv_aload_n hx hb dX11_feedNumber_7 rfl (lv_at hl 1 rfl) ?_
  refine va_get (D := (dC, dI)) (ci := 11) (v := .int (nI (n0 + 13))) (C := RX11) (T := TX11) (N := 14) hx hb hts (fun w h => mc (in_X11 w h)) hown hK hP 0 rfl rfl 1 (by decide) (hts _ (mc m_5)) (fun _ h9 => h9) rfl dX11_feedNumber_8 ?_
  refine lv_aload_n hx hb dX11_feedNumber_11 rfl (lv_at hl 1 rfl) ?_
  refine va_get (D := (dC, dI)) (ci := 11) (v := .ref q1) (C := RX11) (T := TX11) (N := 14) hx hb hts (fun w h => mc (in_X11 w h)) hown hK hP 0 rfl rfl 0 (by decide) (hts _ (mc m_4)) (fun _ h9 => h9) rfl dX11_feedNumber_12 ?_
  refine va_alen (v := 3000) hx hb hK hP 1 0 rfl rfl (by first | rfl | decide) dX11_feedNumber_15 ?_
  refine lv_icmp_ge (tgt := 42) hx hb dX11_feedNumber_16 (by decide) (fun c9 => absurd c9 (nI_ge (b := 3000) (by omega) (by decide))) (fun _ => ?_)
  refine lv_aload_n hx hb dX11_feedNumber_19 rfl (lv_at hl 1 rfl) ?_
  refine va_get (D := (dC, dI)) (ci := 11) (v := .ref q1) (C := RX11) (T := TX11) (N := 14) hx hb hts (fun w h => mc (in_X11 w h)) hown hK hP 0 rfl rfl 0 (by decide) (hts _ (mc m_4)) (fun _ h9 => h9) rfl dX11_feedNumber_20 ?_
  refine lv_aload_n hx hb dX11_feedNumber_23 rfl (lv_at hl 1 rfl) ?_
  refine va_get (D := (dC, dI)) (ci := 11) (v := .int (nI (n0 + 13))) (C := RX11) (T := TX11) (N := 14) hx hb hts (fun w h => mc (in_X11 w h)) hown hK hP 0 rfl rfl 1 (by decide) (hts _ (mc m_5)) (fun _ h9 => h9) rfl dX11_feedNumber_24 ?_
  refine lv_iload_n hx hb dX11_feedNumber_27 rfl (lv_at hl 2 rfl) ?_
  refine lv_iload_n hx hb dX11_feedNumber_28 rfl (lv_at hl 0 rfl) ?_
  refine lv_ishr hx hb dX11_feedNumber_29 ?_
  refine lv_topi (fun x104 ex104 => ?_)
  refine lv_i2b hx hb dX11_feedNumber_30 rfl ?_
  refine lv_topi (fun x105 ex105 => ?_)
  refine va_bast hx hb hK hP hD hS 1 0 rfl rfl (vp_in_nI (by omega) (by decide)) dX11_feedNumber_31 (fun H locs hP hD hS => ?_)
  have hP : va_P (dC, dI) classes [(q0, .inr (11, [.ref q1, .int (nI (n0 + 13)), .ref q2, .ref q3, .ref q4, .int x0, .int x1, .int x2, .ref q5, .ref q6, .ref q7, .ref q8, .ref q9, .ref q10])), (q1, .inl (k0, 3000, .inl (upd f103 (Int32.toNatClampNeg (nI (n0 + 13))) (vp_nar .byte x105))))] H := hP
  have hD : va_D A [(q0, .inr (11, [.ref q1, .int (nI (n0 + 13)), .ref q2, .ref q3, .ref q4, .int x0, .int x1, .int x2, .ref q5, .ref q6, .ref q7, .ref q8, .ref q9, .ref q10])), (q1, .inl (k0, 3000, .inl (upd f103 (Int32.toNatClampNeg (nI (n0 + 13))) (vp_nar .byte x105))))] := hD
  obtain ⟨f106, ef106⟩ : ∃ z : Nat → Int32, z = (upd f103 (Int32.toNatClampNeg (nI (n0 + 13))) (vp_nar .byte x105)) := ⟨_, rfl⟩
  rw [← ef106] at hP hD
  have hP : va_P (dC, dI) classes [(q0, .inr (11, [.ref q1, .int (nI (n0 + 13)), .ref q2, .ref q3, .ref q4, .int x0, .int x1, .int x2, .ref q5, .ref q6, .ref q7, .ref q8, .ref q9, .ref q10])), (q1, .inl (k0, 3000, .inl f106))] H := hP
  have hD : va_D A [(q0, .inr (11, [.ref q1, .int (nI (n0 + 13)), .ref q2, .ref q3, .ref q4, .int x0, .int x1, .int x2, .ref q5, .ref q6, .ref q7, .ref q8, .ref q9, .ref q10])), (q1, .inl (k0, 3000, .inl f106))] := hD
  refine lv_aload_n hx hb dX11_feedNumber_32 rfl (lv_at hl 1 rfl) ?_
  refine lv_dup hx hb dX11_feedNumber_33 rfl ?_
  refine va_get (D := (dC, dI)) (ci := 11) (v := .int (nI (n0 + 13))) (C := RX11) (T := TX11) (N := 14) hx hb hts (fun w h => mc (in_X11 w h)) hown hK hP 0 rfl rfl 1 (by decide) (hts _ (mc m_5)) (fun _ h9 => h9) rfl dX11_feedNumber_34 ?_
  refine lv_iconst (v := 1) hx hb dX11_feedNumber_37 (by decide) ?_
  refine lv_iadd hx hb dX11_feedNumber_38 ?_
  refine q_topi (nI (n0 + 14)) (nI_add _ 1) ?_
  refine va_put (D := (dC, dI)) (ci := 11) (v := .int (nI (n0 + 14))) (ty := .int) (C := RX11) (T := TX11) (N := 14) hx hb hts (fun w h => mc (in_X11 w h)) tyX11 tyX11_ok nmX11 hown hK hP hD hS 0 rfl rfl 1 (by decide) (hts _ (mc m_5)) (fun _ h9 => h9) rfl (by decide +kernel) (by first | rfl | decide) (by first | rfl | decide) (Nat.le_of_ble_eq_true rfl) dX11_feedNumber_39 (fun H locs hP hD hS => ?_)
  have hP : va_P (dC, dI) classes [(q0, .inr (11, [.ref q1, .int (nI (n0 + 14)), .ref q2, .ref q3, .ref q4, .int x0, .int x1, .int x2, .ref q5, .ref q6, .ref q7, .ref q8, .ref q9, .ref q10])), (q1, .inl (k0, 3000, .inl f106))] H := hP
  have hD : va_D A [(q0, .inr (11, [.ref q1, .int (nI (n0 + 14)), .ref q2, .ref q3, .ref q4, .int x0, .int x1, .int x2, .ref q5, .ref q6, .ref q7, .ref q8, .ref q9, .ref q10])), (q1, .inl (k0, 3000, .inl f106))] := hD
  refine lv_iinc (v := 8) (lv' := [(2, .int 8), (0, .ref q0), (1, .int p0)]) hx hb dX11_feedNumber_42 hl (k := 0) rfl (by decide) (by decide) rfl (fun ls hl => ?_)
  refine lv_goto (tgt := 3) hx hb dX11_feedNumber_45 (by decide) ?_
  refine lv_iload_n hx hb dX11_feedNumber_3 rfl (lv_at hl 0 rfl) ?_
  refine lv_if_lt (tgt := 48) hx hb dX11_feedNumber_4 (by decide) (fun c9 => absurd c9 (by decide)) (fun _ => ?_)
  refine lv_aload_n hx hb dX11_feedNumber_7 rfl (lv_at hl 1 rfl) ?_
  refine va_get (D := (dC, dI)) (ci := 11) (v := .int (nI (n0 + 14))) (C := RX11) (T := TX11) (N := 14) hx hb hts (fun w h => mc (in_X11 w h)) hown hK hP 0 rfl rfl 1 (by decide) (hts _ (mc m_5)) (fun _ h9 => h9) rfl dX11_feedNumber_8 ?_
  refine lv_aload_n hx hb dX11_feedNumber_11 rfl (lv_at hl 1 rfl) ?_
  refine va_get (D := (dC, dI)) (ci := 11) (v := .ref q1) (C := RX11) (T := TX11) (N := 14) hx hb hts (fun w h => mc (in_X11 w h)) hown hK hP 0 rfl rfl 0 (by decide) (hts _ (mc m_4)) (fun _ h9 => h9) rfl dX11_feedNumber_12 ?_
  refine va_alen (v := 3000) hx hb hK hP 1 0 rfl rfl (by first | rfl | decide) dX11_feedNumber_15 ?_
  refine lv_icmp_ge (tgt := 42) hx hb dX11_feedNumber_16 (by decide) (fun c9 => absurd c9 (nI_ge (b := 3000) (by omega) (by decide))) (fun _ => ?_)
  refine lv_aload_n hx hb dX11_feedNumber_19 rfl (lv_at hl 1 rfl) ?_
  refine va_get (D := (dC, dI)) (ci := 11) (v := .ref q1) (C := RX11) (T := TX11) (N := 14) hx hb hts (fun w h => mc (in_X11 w h)) hown hK hP 0 rfl rfl 0 (by decide) (hts _ (mc m_4)) (fun _ h9 => h9) rfl dX11_feedNumber_20 ?_
  refine lv_aload_n hx hb dX11_feedNumber_23 rfl (lv_at hl 1 rfl) ?_
  refine va_get (D := (dC, dI)) (ci := 11) (v := .int (nI (n0 + 14))) (C := RX11) (T := TX11) (N := 14) hx hb hts (fun w h => mc (in_X11 w h)) hown hK hP 0 rfl rfl 1 (by decide) (hts _ (mc m_5)) (fun _ h9 => h9) rfl dX11_feedNumber_24 ?_
  refine lv_iload_n hx hb dX11_feedNumber_27 rfl (lv_at hl 2 rfl) ?_
  refine lv_iload_n hx hb dX11_feedNumber_28 rfl (lv_at hl 0 rfl) ?_
  refine lv_ishr hx hb dX11_feedNumber_29 ?_
  refine lv_topi (fun x107 ex107 => ?_)
  refine lv_i2b hx hb dX11_feedNumber_30 rfl ?_
  refine lv_topi (fun x108 ex108 => ?_)
  refine va_bast hx hb hK hP hD hS 1 0 rfl rfl (vp_in_nI (by omega) (by decide)) dX11_feedNumber_31 (fun H locs hP hD hS => ?_)
  have hP : va_P (dC, dI) classes [(q0, .inr (11, [.ref q1, .int (nI (n0 + 14)), .ref q2, .ref q3, .ref q4, .int x0, .int x1, .int x2, .ref q5, .ref q6, .ref q7, .ref q8, .ref q9, .ref q10])), (q1, .inl (k0, 3000, .inl (upd f106 (Int32.toNatClampNeg (nI (n0 + 14))) (vp_nar .byte x108))))] H := hP
  have hD : va_D A [(q0, .inr (11, [.ref q1, .int (nI (n0 + 14)), .ref q2, .ref q3, .ref q4, .int x0, .int x1, .int x2, .ref q5, .ref q6, .ref q7, .ref q8, .ref q9, .ref q10])), (q1, .inl (k0, 3000, .inl (upd f106 (Int32.toNatClampNeg (nI (n0 + 14))) (vp_nar .byte x108))))] := hD
  obtain ⟨f109, ef109⟩ : ∃ z : Nat → Int32, z = (upd f106 (Int32.toNatClampNeg (nI (n0 + 14))) (vp_nar .byte x108)) := ⟨_, rfl⟩
  rw [← ef109] at hP hD
  have hP : va_P (dC, dI) classes [(q0, .inr (11, [.ref q1, .int (nI (n0 + 14)), .ref q2, .ref q3, .ref q4, .int x0, .int x1, .int x2, .ref q5, .ref q6, .ref q7, .ref q8, .ref q9, .ref q10])), (q1, .inl (k0, 3000, .inl f109))] H := hP
  have hD : va_D A [(q0, .inr (11, [.ref q1, .int (nI (n0 + 14)), .ref q2, .ref q3, .ref q4, .int x0, .int x1, .int x2, .ref q5, .ref q6, .ref q7, .ref q8, .ref q9, .ref q10])), (q1, .inl (k0, 3000, .inl f109))] := hD
  refine lv_aload_n hx hb dX11_feedNumber_32 rfl (lv_at hl 1 rfl) ?_
  refine lv_dup hx hb dX11_feedNumber_33 rfl ?_
  refine va_get (D := (dC, dI)) (ci := 11) (v := .int (nI (n0 + 14))) (C := RX11) (T := TX11) (N := 14) hx hb hts (fun w h => mc (in_X11 w h)) hown hK hP 0 rfl rfl 1 (by decide) (hts _ (mc m_5)) (fun _ h9 => h9) rfl dX11_feedNumber_34 ?_
  refine lv_iconst (v := 1) hx hb dX11_feedNumber_37 (by decide) ?_
  refine lv_iadd hx hb dX11_feedNumber_38 ?_
  refine q_topi (nI (n0 + 15)) (nI_add _ 1) ?_
  refine va_put (D := (dC, dI)) (ci := 11) (v := .int (nI (n0 + 15))) (ty := .int) (C := RX11) (T := TX11) (N := 14) hx hb hts (fun w h => mc (in_X11 w h)) tyX11 tyX11_ok nmX11 hown hK hP hD hS 0 rfl rfl 1 (by decide) (hts _ (mc m_5)) (fun _ h9 => h9) rfl (by decide +kernel) (by first | rfl | decide) (by first | rfl | decide) (Nat.le_of_ble_eq_true rfl) dX11_feedNumber_39 (fun H locs hP hD hS => ?_)
  have hP : va_P (dC, dI) classes [(q0, .inr (11, [.ref q1, .int (nI (n0 + 15)), .ref q2, .ref q3, .ref q4, .int x0, .int x1, .int x2, .ref q5, .ref q6, .ref q7, .ref q8, .ref q9, .ref q10])), (q1, .inl (k0, 3000, .inl f109))] H := hP
  have hD : va_D A [(q0, .inr (11, [.ref q1, .int (nI (n0 + 15)), .ref q2, .ref q3, .ref q4, .int x0, .int x1, .int x2, .ref q5, .ref q6, .ref q7, .ref q8, .ref q9, .ref q10])), (q1, .inl (k0, 3000, .inl f109))] := hD
  refine lv_iinc (v := 0) (lv' := [(2, .int 0), (0, .ref q0), (1, .int p0)]) hx hb dX11_feedNumber_42 hl (k := 0) rfl (by decide) (by decide) rfl (fun ls hl => ?_)
  refine lv_goto (tgt := 3) hx hb dX11_feedNumber_45 (by decide) ?_
  refine lv_iload_n hx hb dX11_feedNumber_3 rfl (lv_at hl 0 rfl) ?_
  refine lv_if_lt (tgt := 48) hx hb dX11_feedNumber_4 (by decide) (fun c9 => absurd c9 (by decide)) (fun _ => ?_)
  refine lv_aload_n hx hb dX11_feedNumber_7 rfl (lv_at hl 1 rfl) ?_
  refine va_get (D := (dC, dI)) (ci := 11) (v := .int (nI (n0 + 15))) (C := RX11) (T := TX11) (N := 14) hx hb hts (fun w h => mc (in_X11 w h)) hown hK hP 0 rfl rfl 1 (by decide) (hts _ (mc m_5)) (fun _ h9 => h9) rfl dX11_feedNumber_8 ?_
  refine lv_aload_n hx hb dX11_feedNumber_11 rfl (lv_at hl 1 rfl) ?_
  refine va_get (D := (dC, dI)) (ci := 11) (v := .ref q1) (C := RX11) (T := TX11) (N := 14) hx hb hts (fun w h => mc (in_X11 w h)) hown hK hP 0 rfl rfl 0 (by decide) (hts _ (mc m_4)) (fun _ h9 => h9) rfl dX11_feedNumber_12 ?_
  refine va_alen (v := 3000) hx hb hK hP 1 0 rfl rfl (by first | rfl | decide) dX11_feedNumber_15 ?_
  refine lv_icmp_ge (tgt := 42) hx hb dX11_feedNumber_16 (by decide) (fun c9 => absurd c9 (nI_ge (b := 3000) (by omega) (by decide))) (fun _ => ?_)
  refine lv_aload_n hx hb dX11_feedNumber_19 rfl (lv_at hl 1 rfl) ?_
  refine va_get (D := (dC, dI)) (ci := 11) (v := .ref q1) (C := RX11) (T := TX11) (N := 14) hx hb hts (fun w h => mc (in_X11 w h)) hown hK hP 0 rfl rfl 0 (by decide) (hts _ (mc m_4)) (fun _ h9 => h9) rfl dX11_feedNumber_20 ?_
  refine lv_aload_n hx hb dX11_feedNumber_23 rfl (lv_at hl 1 rfl) ?_
  refine va_get (D := (dC, dI)) (ci := 11) (v := .int (nI (n0 + 15))) (C := RX11) (T := TX11) (N := 14) hx hb hts (fun w h => mc (in_X11 w h)) hown hK hP 0 rfl rfl 1 (by decide) (hts _ (mc m_5)) (fun _ h9 => h9) rfl dX11_feedNumber_24 ?_
  refine lv_iload_n hx hb dX11_feedNumber_27 rfl (lv_at hl 2 rfl) ?_
  refine lv_iload_n hx hb dX11_feedNumber_28 rfl (lv_at hl 0 rfl) ?_
  refine lv_ishr hx hb dX11_feedNumber_29 ?_
  refine lv_topi (fun x110 ex110 => ?_)
  refine lv_i2b hx hb dX11_feedNumber_30 rfl ?_
  refine lv_topi (fun x111 ex111 => ?_)
  refine va_bast hx hb hK hP hD hS 1 0 rfl rfl (vp_in_nI (by omega) (by decide)) dX11_feedNumber_31 (fun H locs hP hD hS => ?_)
  have hP : va_P (dC, dI) classes [(q0, .inr (11, [.ref q1, .int (nI (n0 + 15)), .ref q2, .ref q3, .ref q4, .int x0, .int x1, .int x2, .ref q5, .ref q6, .ref q7, .ref q8, .ref q9, .ref q10])), (q1, .inl (k0, 3000, .inl (upd f109 (Int32.toNatClampNeg (nI (n0 + 15))) (vp_nar .byte x111))))] H := hP
  have hD : va_D A [(q0, .inr (11, [.ref q1, .int (nI (n0 + 15)), .ref q2, .ref q3, .ref q4, .int x0, .int x1, .int x2, .ref q5, .ref q6, .ref q7, .ref q8, .ref q9, .ref q10])), (q1, .inl (k0, 3000, .inl (upd f109 (Int32.toNatClampNeg (nI (n0 + 15))) (vp_nar .byte x111))))] := hD
  obtain ⟨f112, ef112⟩ : ∃ z : Nat → Int32, z = (upd f109 (Int32.toNatClampNeg (nI (n0 + 15))) (vp_nar .byte x111)) := ⟨_, rfl⟩
  rw [← ef112] at hP hD
  have hP : va_P (dC, dI) classes [(q0, .inr (11, [.ref q1, .int (nI (n0 + 15)), .ref q2, .ref q3, .ref q4, .int x0, .int x1, .int x2, .ref q5, .ref q6, .ref q7, .ref q8, .ref q9, .ref q10])), (q1, .inl (k0, 3000, .inl f112))] H := hP
  have hD : va_D A [(q0, .inr (11, [.ref q1, .int (nI (n0 + 15)), .ref q2, .ref q3, .ref q4, .int x0, .int x1, .int x2, .ref q5, .ref q6, .ref q7, .ref q8, .ref q9, .ref q10])), (q1, .inl (k0, 3000, .inl f112))] := hD
  refine lv_aload_n hx hb dX11_feedNumber_32 rfl (lv_at hl 1 rfl) ?_
  refine lv_dup hx hb dX11_feedNumber_33 rfl ?_
  refine va_get (D := (dC, dI)) (ci := 11) (v := .int (nI (n0 + 15))) (C := RX11) (T := TX11) (N := 14) hx hb hts (fun w h => mc (in_X11 w h)) hown hK hP 0 rfl rfl 1 (by decide) (hts _ (mc m_5)) (fun _ h9 => h9) rfl dX11_feedNumber_34 ?_
  refine lv_iconst (v := 1) hx hb dX11_feedNumber_37 (by decide) ?_
  refine lv_iadd hx hb dX11_feedNumber_38 ?_
  refine q_topi (nI (n0 + 16)) (nI_add _ 1) ?_
  refine va_put (D := (dC, dI)) (ci := 11) (v := .int (nI (n0 + 16))) (ty := .int) (C := RX11) (T := TX11) (N := 14) hx hb hts (fun w h => mc (in_X11 w h)) tyX11 tyX11_ok nmX11 hown hK hP hD hS 0 rfl rfl 1 (by decide) (hts _ (mc m_5)) (fun _ h9 => h9) rfl (by decide +kernel) (by first | rfl | decide) (by first | rfl | decide) (Nat.le_of_ble_eq_true rfl) dX11_feedNumber_39 (fun H locs hP hD hS => ?_)
  have hP : va_P (dC, dI) classes [(q0, .inr (11, [.ref q1, .int (nI (n0 + 16)), .ref q2, .ref q3, .ref q4, .int x0, .int x1, .int x2, .ref q5, .ref q6, .ref q7, .ref q8, .ref q9, .ref q10])), (q1, .inl (k0, 3000, .inl f112))] H := hP
  have hD : va_D A [(q0, .inr (11, [.ref q1, .int (nI (n0 + 16)), .ref q2, .ref q3, .ref q4, .int x0, .int x1, .int x2, .ref q5, .ref q6, .ref q7, .ref q8, .ref q9, .ref q10])), (q1, .inl (k0, 3000, .inl f112))] := hD
  refine lv_iinc (v := (-8)) (lv' := [(2, .int (-8)), (0, .ref q0), (1, .int p0)]) hx hb dX11_feedNumber_42 hl (k := 0) rfl (by decide) (by decide) rfl (fun ls hl => ?_)
  refine lv_goto (tgt := 3) hx hb dX11_feedNumber_45 (by decide) ?_
  refine lv_iload_n hx hb dX11_feedNumber_3 rfl (lv_at hl 0 rfl) ?_
  refine lv_if_lt (tgt := 48) hx hb dX11_feedNumber_4 (by decide) (fun _ => ?_) (fun c9 => absurd (by decide) c9)
  exact W.vret hx hb hr (fun t ht hW => ⟨⟨(), rfl, trivial, f112, by rw [ht]; exact hP, va_K.moved hW.alike hK, hD⟩, hS.F ht⟩) hS.2.2 dX11_feedNumber_48
set_option maxHeartbeats 4000000 in
set_option maxRecDepth 100000 in
theorem c_X11_feedNumber_4 (l : Launch) (dC : Nat → ClassId) (dI : Nat → Nat → Nat) (q0 : Nat) (p0 : Int32) (q1 : Nat) (n0 : Nat) (q2 : Nat) (q3 : Nat) (q4 : Nat) (x0 : Int32) (x1 : Int32) (x2 : Int32) (q5 : Nat) (q6 : Nat) (q7 : Nat) (q8 : Nat) (q9 : Nat) (q10 : Nat) (k0 : ClassId) (f0 : Nat → Int32) (sz : Nat) (h1 : n0 + 20 ≤ 3000) : Met l yX11_feedNumber (.code yX11_feedNumber cX11_feedNumber 3 none :: bigW) { frames := 0, cells := 0, slots := 0, locals := 0 } (va_Pc [.ref q0, .int p0] (q_In dC dI [(q0, .inr (11, [.ref q1, .int (nI (n0 + 16)), .ref q2, .ref q3, .ref q4, .int x0, .int x1, .int x2, .ref q5, .ref q6, .ref q7, .ref q8, .ref q9, .ref q10])), (q1, .inl (k0, 3000, .inl f0))] [(k0, .byte)] sz)) (va_Qv (fun _ : Unit => True) (fun _ t => ∃ (f112 : Nat → Int32), va_P (dC, dI) classes [(q0, .inr (11, [.ref q1, .int (nI (n0 + 20)), .ref q2, .ref q3, .ref q4, .int x0, .int x1, .int x2, .ref q5, .ref q6, .ref q7, .ref q8, .ref q9, .ref q10])), (q1, .inl (k0, 3000, .inl f112))] t.heap ∧ va_K (dC, dI) classes [(k0, .byte)] t ∧ va_D (va_A [(q0, .inr (11, [.ref q1, .int (nI (n0 + 16)), .ref q2, .ref q3, .ref q4, .int x0, .int x1, .int x2, .ref q5, .ref q6, .ref q7, .ref q8, .ref q9, .ref q10])), (q1, .inl (k0, 3000, .inl f0))] sz) [(q0, .inr (11, [.ref q1, .int (nI (n0 + 20)), .ref q2, .ref q3, .ref q4, .int x0, .int x1, .int x2, .ref q5, .ref q6, .ref q7, .ref q8, .ref q9, .ref q10])), (q1, .inl (k0, 3000, .inl f112))]) (va_A [(q0, .inr (11, [.ref q1, .int (nI (n0 + 16)), .ref q2, .ref q3, .ref q4, .int x0, .int x1, .int x2, .ref q5, .ref q6, .ref q7, .ref q8, .ref q9, .ref q10])), (q1, .inl (k0, 3000, .inl f0))] sz)) 0 0 (va_A [(q0, .inr (11, [.ref q1, .int (nI (n0 + 16)), .ref q2, .ref q3, .ref q4, .int x0, .int x1, .int x2, .ref q5, .ref q6, .ref q7, .ref q8, .ref q9, .ref q10])), (q1, .inl (k0, 3000, .inl f0))] sz) := by
  refine Met.ofW (cc := cX11_feedNumber) (maxL := 3) (ret := none) (by decide) rfl ?_
  intro p e s m args below meth c s₁ B hml hv
  obtain ⟨rfl, hsz, hP, hK, hD0, hE⟩ := hv
  have hx := B.exec
  have hb := B.bytes
  have hr := B.returns
  have hts := atoms_spec (ws := .code yX11_feedNumber cX11_feedNumber 3 none :: bigW) B.pre
  have hown : s.vm.findClass RX11 = some m.cls := findClass_of_methodNamed B.named
  have hlocks := B.notSynchronized
  subst hsz
  have hD := hD0.self (sz := s.heap.size)
  generalize hAe : va_A [(q0, .inr (11, [.ref q1, .int (nI (n0 + 16)), .ref q2, .ref q3, .ref q4, .int x0, .int x1, .int x2, .ref q5, .ref q6, .ref q7, .ref q8, .ref q9, .ref q10])), (q1, .inl (k0, 3000, .inl f0))] s.heap.size = A at hD hE ⊢
  have hN : q_N s := hE.2.2.2.1
  have hA : ∀ q : Nat, s.heap.size ≤ q → A q := fun q h => by rw [← hAe]; exact Or.inr h
  have hS : va_S A s.heap s.heap [] := va_S.rf
  have hP : va_P (dC, dI) classes [(q0, .inr (11, [.ref q1, .int (nI (n0 + 16)), .ref q2, .ref q3, .ref q4, .int x0, .int x1, .int x2, .ref q5, .ref q6, .ref q7, .ref q8, .ref q9, .ref q10])), (q1, .inl (k0, 3000, .inl f0))] s.heap := hP
  have hl := lv_entry ([.ref q0, .int p0]) (n := 3) (Nat.le_of_ble_eq_true rfl)
  rw [lg_entry_eq]
  generalize (lg_sl ([.ref q0, .int p0]) ++ List.replicate (3 - (lg_sl ([.ref q0, .int p0])).length) Slot.unset).toArray = ls at hl ⊢
  have hl : lv_has ls 3 [(0, .ref q0), (1, .int p0)] := hl
  refine lv_bipush (v := 24) hx hb dX11_feedNumber_0 (by decide) ?_
  refine lv_istore_n (lv' := [(2, .int 24), (0, .ref q0), (1, .int p0)]) hx hb dX11_feedNumber_2 rfl hl (by decide) rfl (fun ls hl => ?_)
  refine lv_iload_n hx hb dX11_feedNumber_3 rfl (lv_at hl 0 rfl) ?_
  refine lv_if_lt (tgt := 48) hx hb dX11_feedNumber_4 (by decide) (fun c9 => absurd c9 (by decide)) (fun _ => ?_)
  refine lv_aload_n hx hb dX11_feedNumber_7 rfl (lv_at hl 1 rfl) ?_
  refine va_get (D := (dC, dI)) (ci := 11) (v := .int (nI (n0 + 16))) (C := RX11) (T := TX11) (N := 14) hx hb hts (fun w h => mc (in_X11 w h)) hown hK hP 0 rfl rfl 1 (by decide) (hts _ (mc m_5)) (fun _ h9 => h9) rfl dX11_feedNumber_8 ?_
  refine lv_aload_n hx hb dX11_feedNumber_11 rfl (lv_at hl 1 rfl) ?_
  refine va_get (D := (dC, dI)) (ci := 11) (v := .ref q1) (C := RX11) (T := TX11) (N := 14) hx hb hts (fun w h => mc (in_X11 w h)) hown hK hP 0 rfl rfl 0 (by decide) (hts _ (mc m_4)) (fun _ h9 => h9) rfl dX11_feedNumber_12 ?_
  refine va_alen (v := 3000) hx hb hK hP 1 0 rfl rfl (by first | rfl | decide) dX11_feedNumber_15 ?_
  refine lv_icmp_ge (tgt := 42) hx hb dX11_feedNumber_16 (by decide) (fun c9 => absurd c9 (nI_ge (b := 3000) (by omega) (by decide))) (fun _ => ?_)
  refine lv_aload_n hx hb dX11_feedNumber_19 rfl (lv_at hl 1 rfl) ?_
  refine va_get (D := (dC, dI)) (ci := 11) (v := .ref q1) (C := RX11) (T := TX11) (N := 14) hx hb hts (fun w h => mc (in_X11 w h)) hown hK hP 0 rfl rfl 0 (by decide) (hts _ (mc m_4)) (fun _ h9 => h9) rfl dX11_feedNumber_20 ?_
  refine lv_aload_n hx hb dX11_feedNumber_23 rfl (lv_at hl 1 rfl) ?_
  refine va_get (D := (dC, dI)) (ci := 11) (v := .int (nI (n0 + 16))) (C := RX11) (T := TX11) (N := 14) hx hb hts (fun w h => mc (in_X11 w h)) hown hK hP 0 rfl rfl 1 (by decide) (hts _ (mc m_5)) (fun _ h9 => h9) rfl dX11_feedNumber_24 ?_
  refine lv_iload_n hx hb dX11_feedNumber_27 rfl (lv_at hl 2 rfl) ?_
  refine lv_iload_n hx hb dX11_feedNumber_28 rfl (lv_at hl 0 rfl) ?_
  refine lv_ishr hx hb dX11_feedNumber_29 ?_
  refine lv_topi (fun x101 ex101 => ?_)
  refine lv_i2b hx hb dX11_feedNumber_30 rfl ?_
  refine lv_topi (fun x102 ex102 => ?_)
  refine va_bast hx hb hK hP hD hS 1 0 rfl rfl (vp_in_nI (by omega) (by decide)) dX11_feedNumber_31 (fun H locs hP hD hS => ?_)
  have hP : va_P (dC, dI) classes [(q0, .inr (11, [.ref q1, .int (nI (n0 + 16)), .ref q2, .ref q3, .ref q4, .int x0, .int x1, .int x2, .ref q5, .ref q6, .ref q7, .ref q8, .ref q9, .ref q10])), (q1, .inl (k0, 3000, .inl (upd f0 (Int32.toNatClampNeg (nI (n0 + 16))) (vp_nar .byte x102))))] H := hP
  have hD : va_D A [(q0, .inr (11, [.ref q1, .int (nI (n0 + 16)), .ref q2, .ref q3, .ref q4, .int x0, .int x1, .int x2, .ref q5, .ref q6, .ref q7, .ref q8, .ref q9, .ref q10])), (q1, .inl (k0, 3000, .inl (upd f0 (Int32.toNatClampNeg (nI (n0 + 16))) (vp_nar .byte x102))))] := hD
  obtain ⟨f103, ef103⟩ : ∃ z : Nat → Int32, z = (upd f0 (Int32.toNatClampNeg (nI (n0 + 16))) (vp_nar .byte x102)) := ⟨_, rfl⟩
  rw [← ef103] at hP hD
  have hP : va_P (dC, dI) classes [(q0, .inr (11, [.ref q1, .int (nI (n0 + 16)), .ref q2, .ref q3, .ref q4, .int x0, .int x1, .int x2, .ref q5, .ref q6, .ref q7, .ref q8, .ref q9, .ref q10])), (q1, .inl (k0, 3000, .inl f103))] H := hP
  have hD : va_D A [(q0, .inr (11, [.ref q1, .int (nI (n0 + 16)), .ref q2, .ref q3, .ref q4, .int x0, .int x1, .int x2, .ref q5, .ref q6, .ref q7, .ref q8, .ref q9, .ref q10])), (q1, .inl (k0, 3000, .inl f103))] := hD
  refine lv_aload_n hx hb dX11_feedNumber_32 rfl (lv_at hl 1 rfl) ?_
  refine lv_dup hx hb dX11_feedNumber_33 rfl ?_
  refine va_get (D := (dC, dI)) (ci := 11) (v := .int (nI (n0 + 16))) (C := RX11) (T := TX11) (N := 14) hx hb hts (fun w h => mc (in_X11 w h)) hown hK hP 0 rfl rfl 1 (by decide) (hts _ (mc m_5)) (fun _ h9 => h9) rfl dX11_feedNumber_34 ?_
  refine lv_iconst (v := 1) hx hb dX11_feedNumber_37 (by decide) ?_
  refine lv_iadd hx hb dX11_feedNumber_38 ?_
  refine q_topi (nI (n0 + 17)) (nI_add _ 1) ?_
  refine va_put (D := (dC, dI)) (ci := 11) (v := .int (nI (n0 + 17))) (ty := .int) (C := RX11) (T := TX11) (N := 14) hx hb hts (fun w h => mc (in_X11 w h)) tyX11 tyX11_ok nmX11 hown hK hP hD hS 0 rfl rfl 1 (by decide) (hts _ (mc m_5)) (fun _ h9 => h9) rfl (by decide +kernel) (by first | rfl | decide) (by first | rfl | decide) (Nat.le_of_ble_eq_true rfl) dX11_feedNumber_39 (fun H locs hP hD hS => ?_)
  have hP : va_P (dC, dI) classes [(q0, .inr (11, [.ref q1, .int (nI (n0 + 17)), .ref q2, .ref q3, .ref q4, .int x0, .int x1, .int x2, .ref q5, .ref q6, .ref q7, .ref q8, .ref q9, .ref q10])), (q1, .inl (k0, 3000, .inl f103))] H := hP
  have hD : va_D A [(q0, .inr (11, [.ref q1, .int (nI (n0 + 17)), .ref q2, .ref q3, .ref q4, .int x0, .int x1, .int x2, .ref q5, .ref q6, .ref q7, .ref q8, .ref q9, .ref q10])), (q1, .inl (k0, 3000, .inl f103))] := hD
  refine lv_iinc (v := 16) (lv' := [(2, .int 16), (0, .ref q0), (1, .int p0)]) hx hb dX11_feedNumber_42 hl (k := 0) rfl (by decide) (by decide) rfl (fun ls hl => ?_)
  refine lv_goto (tgt := 3) hx hb dX11_feedNumber_45 (by decide) ?_
  refine lv_iload_n hx hb dX11_feedNumber_3 rfl (lv_at hl 0 rfl) ?_
  refine lv_if_lt (tgt := 48) hx hb dX11_feedNumber_4 (by decide) (fun c9 => absurd c9 (by decide)) (fun _ => ?_)
  refine lv_aload_n hx hb dX11_feedNumber_7 rfl (lv_at hl 1 rfl) ?_
  refine va_get (D := (dC, dI)) (ci := 11) (v := .int (nI (n0 + 17))) (C := RX11) (T := TX11) (N := 14) hx hb hts (fun w h => mc (in_X11 w h)) hown hK hP 0 rfl rfl 1 (by decide) (hts _ (mc m_5)) (fun _ h9 => h9) rfl dX11_feedNumber_8 ?_
  refine lv_aload_n hx hb dX11_feedNumber_11 rfl (lv_at hl 1 rfl) ?_
  refine va_get (D := (dC, dI)) (ci := 11) (v := .ref q1) (C := RX11) (T := TX11) (N := 14) hx hb hts (fun w h => mc (in_X11 w h)) hown hK hP 0 rfl rfl 0 (by decide) (hts _ (mc m_4)) (fun _ h9 => h9) rfl dX11_feedNumber_12 ?_
  refine va_alen (v := 3000) hx hb hK hP 1 0 rfl rfl (by first | rfl | decide) dX11_feedNumber_15 ?_
  refine lv_icmp_ge (tgt := 42) hx hb dX11_feedNumber_16 (by decide) (fun c9 => absurd c9 (nI_ge (b := 3000) (by omega) (by decide))) (fun _ => ?_)
  refine lv_aload_n hx hb dX11_feedNumber_19 rfl (lv_at hl 1 rfl) ?_
  refine va_get (D := (dC, dI)) (ci := 11) (v := .ref q1) (C := RX11) (T := TX11) (N := 14) hx hb hts (fun w h => mc (in_X11 w h)) hown hK hP 0 rfl rfl 0 (by decide) (hts _ (mc m_4)) (fun _ h9 => h9) rfl dX11_feedNumber_20 ?_
  refine lv_aload_n hx hb dX11_feedNumber_23 rfl (lv_at hl 1 rfl) ?_
  refine va_get (D := (dC, dI)) (ci := 11) (v := .int (nI (n0 + 17))) (C := RX11) (T := TX11) (N := 14) hx hb hts (fun w h => mc (in_X11 w h)) hown hK hP 0 rfl rfl 1 (by decide) (hts _ (mc m_5)) (fun _ h9 => h9) rfl dX11_feedNumber_24 ?_
  refine lv_iload_n hx hb dX11_feedNumber_27 rfl (lv_at hl 2 rfl) ?_
  refine lv_iload_n hx hb dX11_feedNumber_28 rfl (lv_at hl 0 rfl) ?_
  refine lv_ishr hx hb dX11_feedNumber_29 ?_
  refine lv_topi (fun x104 ex104 => ?_)
  refine lv_i2b hx hb dX11_feedNumber_30 rfl ?_
  refine lv_topi (fun x105 ex105 => ?_)
  refine va_bast hx hb hK hP hD hS 1 0 rfl rfl (vp_in_nI (by omega) (by decide)) dX11_feedNumber_31 (fun H locs hP hD hS => ?_)
  have hP : va_P (dC, dI) classes [(q0, .inr (11, [.ref q1, .int (nI (n0 + 17)), .ref q2, .ref q3, .ref q4, .int x0, .int x1, .int x2, .ref q5, .ref q6, .ref q7, .ref q8, .ref q9, .ref q10])), (q1, .inl (k0, 3000, .inl (upd f103 (Int32.toNatClampNeg (nI (n0 + 17))) (vp_nar .byte x105))))] H := hP
  have hD : va_D A [(q0, .inr (11, [.ref q1, .int (nI (n0 + 17)), .ref q2, .ref q3, .ref q4, .int x0, .int x1, .int x2, .ref q5, .ref q6, .ref q7, .ref q8, .ref q9, .ref q10])), (q1, .inl (k0, 3000, .inl (upd f103 (Int32.toNatClampNeg (nI (n0 + 17))) (vp_nar .byte x105))))] := hD
  obtain ⟨f106, ef106⟩ : ∃ z : Nat → Int32, z = (upd f103 (Int32.toNatClampNeg (nI (n0 + 17))) (vp_nar .byte x105)) := ⟨_, rfl⟩
  rw [← ef106] at hP hD
  have hP : va_P (dC, dI) classes [(q0, .inr (11, [.ref q1, .int (nI (n0 + 17)), .ref q2, .ref q3, .ref q4, .int x0, .int x1, .int x2, .ref q5, .ref q6, .ref q7, .ref q8, .ref q9, .ref q10])), (q1, .inl (k0, 3000, .inl f106))] H := hP
  have hD : va_D A [(q0, .inr (11, [.ref q1, .int (nI (n0 + 17)), .ref q2, .ref q3, .ref q4, .int x0, .int x1, .int x2, .ref q5, .ref q6, .ref q7, .ref q8, .ref q9, .ref q10])), (q1, .inl (k0, 3000, .inl f106))] := hD
  refine lv_aload_n hx hb dX11_feedNumber_32 rfl (lv_at hl 1 rfl) ?_
  refine lv_dup hx hb dX11_feedNumber_33 rfl ?_
  refine va_get (D := (dC, dI)) (ci := 11) (v := .int (nI (n0 + 17))) (C := RX11) (T := TX11) (N := 14) hx hb hts (fun w h => mc (in_X11 w h)) hown hK hP 0 rfl rfl 1 (by decide) (hts _ (mc m_5)) (fun _ h9 => h9) rfl dX11_feedNumber_34 ?_
  refine lv_iconst (v := 1) hx hb dX11_feedNumber_37 (by decide) ?_
  refine lv_iadd hx hb dX11_feedNumber_38 ?_
  refine q_topi (nI (n0 + 18)) (nI_add _ 1) ?_
  refine va_put (D := (dC, dI)) (ci := 11) (v := .int (nI (n0 + 18))) (ty := .int) (C := RX11) (T := TX11) (N := 14) hx hb hts (fun w h => mc (in_X11 w h)) tyX11 tyX11_ok nmX11 hown hK hP hD hS 0 rfl rfl 1 (by decide) (hts _ (mc m_5)) (fun _ h9 => h9) rfl (by decide +kernel) (by first | rfl | decide) (by first | rfl | decide) (Nat.le_of_ble_eq_true rfl) dX11_feedNumber_39 (fun H locs hP hD hS => ?_)
  have hP : va_P (dC, dI) classes [(q0, .inr (11, [.ref q1, .int (nI (n0 + 18)), .ref q2, .ref q3, .ref q4, .int x0, .int x1, .int x2, .ref q5, .ref q6, .ref q7, .ref q8, .ref q9, .ref q10])), (q1, .inl (k0, 3000, .inl f106))] H := hP
  have hD : va_D A [(q0, .inr (11, [.ref q1, .int (nI (n0 + 18)), .ref q2, .ref q3, .ref q4, .int x0, .int x1, .int x2, .ref q5, .ref q6, .ref q7, .ref q8, .ref q9, .ref q10])), (q1, .inl (k0, 3000, .inl f106))] := hD
  refine lv_iinc (v := 8) (lv' := [(2, .int 8), (0, .ref q0), (1, .int p0)]) hx hb dX11_feedNumber_42 hl (k := 0) rfl (by decide) (by decide) rfl (fun ls hl => ?_)
  refine lv_goto (tgt := 3) hx hb dX11_feedNumber_45 (by decide) ?_
  refine lv_iload_n hx hb dX11_feedNumber_3 rfl (lv_at hl 0 rfl) ?_
  refine lv_if_lt (tgt := 48) hx hb dX11_feedNumber_4 (by decide) (fun c9 => absurd c9 (by decide)) (fun _ => ?_)
  refine lv_aload_n hx hb dX11_feedNumber_7 rfl (lv_at hl 1 rfl) ?_
  refine va_get (D := (dC, dI)) (ci := 11) (v := .int (nI (n0 + 18))) (C := RX11) (T := TX11) (N := 14) hx hb hts (fun w h => mc (in_X11 w h)) hown hK hP 0 rfl rfl 1 (by decide) (hts _ (mc m_5)) (fun _ h9 => h9) rfl dX11_feedNumber_8 ?_
  refine lv_aload_n hx hb dX11_feedNumber_11 rfl (lv_at hl 1 rfl) ?_
  refine va_get (D := (dC, dI)) (ci := 11) (v := .ref q1) (C := RX11) (T := TX11) (N := 14) hx hb hts (fun w h => mc (in_X11 w h)) hown hK hP 0 rfl rfl 0 (by decide) (hts _ (mc m_4)) (fun _ h9 => h9) rfl dX11_feedNumber_12 ?_
  refine va_alen (v := 3000) hx hb hK hP 1 0 rfl rfl (by first | rfl | decide) dX11_feedNumber_15 ?_
  refine lv_icmp_ge (tgt := 42) hx hb dX11_feedNumber_16 (by decide) (fun c9 => absurd c9 (nI_ge (b := 3000) (by omega) (by decide))) (fun _ => ?_)
  refine lv_aload_n hx hb dX11_feedNumber_19 rfl (lv_at hl 1 rfl) ?_
  refine va_get (D := (dC, dI)) (ci := 11) (v := .ref q1) (C := RX11) (T := TX11) (N := 14) hx hb hts (fun w h => mc (in_X11 w h)) hown hK hP 0 rfl rfl 0 (by decide) (hts _ (mc m_4)) (fun _ h9 => h9) rfl dX11_feedNumber_20 ?_
  refine lv_aload_n hx hb dX11_feedNumber_23 rfl (lv_at hl 1 rfl) ?_
  refine va_get (D := (dC, dI)) (ci := 11) (v := .int (nI (n0 + 18))) (C := RX11) (T := TX11) (N := 14) hx hb hts (fun w h => mc (in_X11 w h)) hown hK hP 0 rfl rfl 1 (by decide) (hts _ (mc m_5)) (fun _ h9 => h9) rfl dX11_feedNumber_24 ?_
  refine lv_iload_n hx hb dX11_feedNumber_27 rfl (lv_at hl 2 rfl) ?_
  refine lv_iload_n hx hb dX11_feedNumber_28 rfl (lv_at hl 0 rfl) ?_
  refine lv_ishr hx hb dX11_feedNumber_29 ?_
  refine lv_topi (fun x107 ex107 => ?_)
  refine lv_i2b hx hb dX11_feedNumber_30 rfl ?_
  refine lv_topi (fun x108 ex108 => ?_)
  refine va_bast hx hb hK hP hD hS 1 0 rfl rfl (vp_in_nI (by omega) (by decide)) dX11_feedNumber_31 (fun H locs hP hD hS => ?_)
  have hP : va_P (dC, dI) classes [(q0, .inr (11, [.ref q1, .int (nI (n0 + 18)), .ref q2, .ref q3, .ref q4, .int x0, .int x1, .int x2, .ref q5, .ref q6, .ref q7, .ref q8, .ref q9, .ref q10])), (q1, .inl (k0, 3000, .inl (upd f106 (Int32.toNatClampNeg (nI (n0 + 18))) (vp_nar .byte x108))))] H := hP
  have hD : va_D A [(q0, .inr (11, [.ref q1, .int (nI (n0 + 18)), .ref q2, .ref q3, .ref q4, .int x0, .int x1, .int x2, .ref q5, .ref q6, .ref q7, .ref q8, .ref q9, .ref q10])), (q1, .inl (k0, 3000, .inl (upd f106 (Int32.toNatClampNeg (nI (n0 + 18))) (vp_nar .byte x108))))] := hD
  obtain ⟨f109, ef109⟩ : ∃ z : Nat → Int32, z = (upd f106 (Int32.toNatClampNeg (nI (n0 + 18))) (vp_nar .byte x108)) := ⟨_, rfl⟩
  rw [← ef109] at hP hD
  have hP : va_P (dC, dI) classes [(q0, .inr (11, [.ref q1, .int (nI (n0 + 18)), .ref q2, .ref q3, .ref q4, .int x0, .int x1, .int x2, .ref q5, .ref q6, .ref q7, .ref q8, .ref q9, .ref q10])), (q1, .inl (k0, 3000, .inl f109))] H := hP
  have hD : va_D A [(q0, .inr (11, [.ref q1, .int (nI (n0 + 18)), .ref q2, .ref q3, .ref q4, .int x0, .int x1, .int x2, .ref q5, .ref q6, .ref q7, .ref q8, .ref q9, .ref q10])), (q1, .inl (k0, 3000, .inl f109))] := hD
  refine lv_aload_n hx hb dX11_feedNumber_32 rfl (lv_at hl 1 rfl) ?_
  refine lv_dup hx hb dX11_feedNumber_33 rfl ?_
  refine va_get (D := (dC, dI)) (ci := 11) (v := .int (nI (n0 + 18))) (C := RX11) (T := TX11) (N := 14) hx hb hts (fun w h => mc (in_X11 w h)) hown hK hP 0 rfl rfl 1 (by decide) (hts _ (mc m_5)) (fun _ h9 => h9) rfl dX11_feedNumber_34 ?_
  refine lv_iconst (v := 1) hx hb dX11_feedNumber_37 (by decide) ?_
  refine lv_iadd hx hb dX11_feedNumber_38 ?_
  refine q_topi (nI (n0 + 19)) (nI_add _ 1) ?_
  refine va_put (D := (dC, dI)) (ci := 11) (v := .int (nI (n0 + 19))) (ty := .int) (C := RX11) (T := TX11) (N := 14) hx hb hts (fun w h => mc (in_X11 w h)) tyX11 tyX11_ok nmX11 hown hK hP hD hS 0 rfl rfl 1 (by decide) (hts _ (mc m_5)) (fun _ h9 => h9) rfl (by decide +kernel) (by first | rfl | decide) (by first | rfl | decide) (Nat.le_of_ble_eq_true rfl) dX11_feedNumber_39 (fun H locs hP hD hS => ?_)
  have hP : va_P (dC, dI) classes [(q0, .inr (11, [.ref q1, .int (nI (n0 + 19)), .ref q2, .ref q3, .ref q4, .int x0, .int x1, .int x2, .ref q5, .ref q6, .ref q7, .ref q8, .ref q9, .ref q10])), (q1, .inl (k0, 3000, .inl f109))] H := hP
  have hD : va_D A [(q0, .inr (11, [.ref q1, .int (nI (n0 + 19)), .ref q2, .ref q3, .ref q4, .int x0, .int x1, .int x2, .ref q5, .ref q6, .ref q7, .ref q8, .ref q9, .ref q10])), (q1, .inl (k0, 3000, .inl f109))] := hD
  refine lv_iinc (v := 0) (lv' := [(2, .int 0), (0, .ref q0), (1, .int p0)]) hx hb dX11_feedNumber_42 hl (k := 0) rfl (by decide) (by decide) rfl (fun ls hl => ?_)
  refine lv_goto (tgt := 3) hx hb dX11_feedNumber_45 (by decide) ?_
  refine lv_iload_n hx hb dX11_feedNumber_3 rfl (lv_at hl 0 rfl) ?_
  refine lv_if_lt (tgt := 48) hx hb dX11_feedNumber_4 (by decide) (fun c9 => absurd c9 (by decide)) (fun _ => ?_)
  refine lv_aload_n hx hb dX11_feedNumber_7 rfl (lv_at hl 1 rfl) ?_
  refine va_get (D := (dC, dI)) (ci := 11) (v := .int (nI (n0 + 19))) (C := RX11) (T := TX11) (N := 14) hx hb hts (fun w h => mc (in_X11 w h)) hown hK hP 0 rfl rfl 1 (by decide) (hts _ (mc m_5)) (fun _ h9 => h9) rfl dX11_feedNumber_8 ?_
  refine lv_aload_n hx hb dX11_feedNumber_11 rfl (lv_at hl 1 rfl) ?_
  refine va_get (D := (dC, dI)) (ci := 11) (v := .ref q1) (C := RX11) (T := TX11) (N := 14) hx hb hts (fun w h => mc (in_X11 w h)) hown hK hP 0 rfl rfl 0 (by decide) (hts _ (mc m_4)) (fun _ h9 => h9) rfl dX11_feedNumber_12 ?_
  refine va_alen (v := 3000) hx hb hK hP 1 0 rfl rfl (by first | rfl | decide) dX11_feedNumber_15 ?_
  refine lv_icmp_ge (tgt := 42) hx hb dX11_feedNumber_16 (by decide) (fun c9 => absurd c9 (nI_ge (b := 3000) (by omega) (by decide))) (fun _ => ?_)
  refine lv_aload_n hx hb dX11_feedNumber_19 rfl (lv_at hl 1 rfl) ?_
  refine va_get (D := (dC, dI)) (ci := 11) (v := .ref q1) (C := RX11) (T := TX11) (N := 14) hx hb hts (fun w h => mc (in_X11 w h)) hown hK hP 0 rfl rfl 0 (by decide) (hts _ (mc m_4)) (fun _ h9 => h9) rfl dX11_feedNumber_20 ?_
  refine lv_aload_n hx hb dX11_feedNumber_23 rfl (lv_at hl 1 rfl) ?_
  refine va_get (D := (dC, dI)) (ci := 11) (v := .int (nI (n0 + 19))) (C := RX11) (T := TX11) (N := 14) hx hb hts (fun w h => mc (in_X11 w h)) hown hK hP 0 rfl rfl 1 (by decide) (hts _ (mc m_5)) (fun _ h9 => h9) rfl dX11_feedNumber_24 ?_
  refine lv_iload_n hx hb dX11_feedNumber_27 rfl (lv_at hl 2 rfl) ?_
  refine lv_iload_n hx hb dX11_feedNumber_28 rfl (lv_at hl 0 rfl) ?_
  refine lv_ishr hx hb dX11_feedNumber_29 ?_
  refine lv_topi (fun x110 ex110 => ?_)
  refine lv_i2b hx hb dX11_feedNumber_30 rfl ?_
  refine lv_topi (fun x111 ex111 => ?_)
  refine va_bast hx hb hK hP hD hS 1 0 rfl rfl (vp_in_nI (by omega) (by decide)) dX11_feedNumber_31 (fun H locs hP hD hS => ?_)
  have hP : va_P (dC, dI) classes [(q0, .inr (11, [.ref q1, .int (nI (n0 + 19)), .ref q2, .ref q3, .ref q4, .int x0, .int x1, .int x2, .ref q5, .ref q6, .ref q7, .ref q8, .ref q9, .ref q10])), (q1, .inl (k0, 3000, .inl (upd f109 (Int32.toNatClampNeg (nI (n0 + 19))) (vp_nar .byte x111))))] H := hP
  have hD : va_D A [(q0, .inr (11, [.ref q1, .int (nI (n0 + 19)), .ref q2, .ref q3, .ref q4, .int x0, .int x1, .int x2, .ref q5, .ref q6, .ref q7, .ref q8, .ref q9, .ref q10])), (q1, .inl (k0, 3000, .inl (upd f109 (Int32.toNatClampNeg (nI (n0 + 19))) (vp_nar .byte x111))))] := hD
  obtain ⟨f112, ef112⟩ : ∃ z : Nat → Int32, z = (upd f109 (Int32.toNatClampNeg (nI (n0 + 19))) (vp_nar .byte x111)) := ⟨_, rfl⟩
  rw [← ef112] at hP hD
  have hP : va_P (dC, dI) classes [(q0, .inr (11, [.ref q1, .int (nI (n0 + 19)), .ref q2, .ref q3, .ref q4, .int x0, .int x1, .int x2, .ref q5, .ref q6, .ref q7, .ref q8, .ref q9, .ref q10])), (q1, .inl (k0, 3000, .inl f112))] H := hP
  have hD : va_D A [(q0, .inr (11, [.ref q1, .int (nI (n0 + 19)), .ref q2, .ref q3, .ref q4, .int x0, .int x1, .int x2, .ref q5, .ref q6, .ref q7, .ref q8, .ref q9, .ref q10])), (q1, .inl (k0, 3000, .inl f112))] := hD
  refine lv_aload_n hx hb dX11_feedNumber_32 rfl (lv_at hl 1 rfl) ?_
  refine lv_dup hx hb dX11_feedNumber_33 rfl ?_
  refine va_get (D := (dC, dI)) (ci := 11) (v := .int (nI (n0 + 19))) (C := RX11) (T := TX11) (N := 14) hx hb hts (fun w h => mc (in_X11 w h)) hown hK hP 0 rfl rfl 1 (by decide) (hts _ (mc m_5)) (fun _ h9 => h9) rfl dX11_feedNumber_34 ?_
  refine lv_iconst (v := 1) hx hb dX11_feedNumber_37 (by decide) ?_
  refine lv_iadd hx hb dX11_feedNumber_38 ?_
  refine q_topi (nI (n0 + 20)) (nI_add _ 1) ?_
  refine va_put (D := (dC, dI)) (ci := 11) (v := .int (nI (n0 + 20))) (ty := .int) (C := RX11) (T := TX11) (N := 14) hx hb hts (fun w h => mc (in_X11 w h)) tyX11 tyX11_ok nmX11 hown hK hP hD hS 0 rfl rfl 1 (by decide) (hts _ (mc m_5)) (fun _ h9 => h9) rfl (by decide +kernel) (by first | rfl | decide) (by first | rfl | decide) (Nat.le_of_ble_eq_true rfl) dX11_feedNumber_39 (fun H locs hP hD hS => ?_)
  have hP : va_P (dC, dI) classes [(q0, .inr (11, [.ref q1, .int (nI (n0 + 20)), .ref q2, .ref q3, .ref q4, .int x0, .int x1, .int x2, .ref q5, .ref q6, .ref q7, .ref q8, .ref q9, .ref q10])), (q1, .inl (k0, 3000, .inl f112))] H := hP
  have hD : va_D A [(q0, .inr (11, [.ref q1, .int (nI (n0 + 20)), .ref q2, .ref q3, .ref q4, .int x0, .int x1, .int x2, .ref q5, .ref q6, .ref q7, .ref q8, .ref q9, .ref q10])), (q1, .inl (k0, 3000, .inl f112))] := hD
  refine lv_iinc (v := (-8)) (lv' := [(2, .int (-8)), (0, .ref q0), (1, .int p0)]) hx hb dX11_feedNumber_42 hl (k := 0) rfl (by decide) (by decide) rfl (fun ls hl => ?_)
  refine lv_goto (tgt := 3) hx hb dX11_feedNumber_45 (by decide) ?_
  refine lv_iload_n hx hb dX11_feedNumber_3 rfl (lv_at hl 0 rfl) ?_
  refine lv_if_lt (tgt := 48) hx hb dX11_feedNumber_4 (by decide) (fun _ => ?_) (fun c9 => absurd (by decide) c9)
  exact W.vret hx hb hr (fun t ht hW => ⟨⟨(), rfl, trivial, f112, by rw [ht]; exact hP, va_K.moved hW.alike hK, hD⟩, hS.F ht⟩) hS.2.2 dX11_feedNumber_48
set_option maxHeartbeats 4000000 in
set_option maxRecDepth 100000 in
theorem c_X11_feed_0 (l : Launch) (dC : Nat → ClassId) (dI : Nat → Nat → Nat) (q0 : Nat) (p0 : Int32) (p1 : Int32) (p2 : Int32) (p3 : Int32) (p4 : Int32) (q1 : Nat) (n0 : Nat) (q2 : Nat) (q3 : Nat) (q4 : Nat) (x0 : Int32) (x1 : Int32) (x2 : Int32) (q5 : Nat) (q6 : Nat) (q7 : Nat) (q8 : Nat) (q9 : Nat) (q10 : Nat) (k0 : ClassId) (f0 : Nat → Int32) (sz : Nat) (h1 : n0 + 20 ≤ 3000) : Met l yX11_feed (.code yX11_feed cX11_feed 6 (some .int) :: bigW) { frames := 1, cells := 0, slots := 0, locals := 22 } (va_Pc [.ref q0, .int p0, .int p1, .int p2, .int p3, .int p4] (q_In dC dI [(q0, .inr (11, [.ref q1, .int (nI n0), .ref q2, .ref q3, .ref q4, .int x0, .int x1, .int x2, .ref q5, .ref q6, .ref q7, .ref q8, .ref q9, .ref q10])), (q1, .inl (k0, 3000, .inl f0))] [(k0, .byte)] sz)) (va_Qi (fun (r9 : Int32) (_ : Unit) => r9 = (nI (n0 + 20))) (fun _ t => ∃ (f105 : Nat → Int32), va_P (dC, dI) classes [(q0, .inr (11, [.ref q1, .int (nI (n0 + 20)), .ref q2, .ref q3, .ref q4, .int x0, .int x1, .int x2, .ref q5, .ref q6, .ref q7, .ref q8, .ref q9, .ref q10])), (q1, .inl (k0, 3000, .inl f105))] t.heap ∧ va_K (dC, dI) classes [(k0, .byte)] t ∧ va_D (va_A [(q0, .inr (11, [.ref q1, .int (nI n0), .ref q2, .ref q3, .ref q4, .int x0, .int x1, .int x2, .ref q5, .ref q6, .ref q7, .ref q8, .ref q9, .ref q10])), (q1, .inl (k0, 3000, .inl f0))] sz) [(q0, .inr (11, [.ref q1, .int (nI (n0 + 20)), .ref q2, .ref q3, .ref q4, .int x0, .int x1, .int x2, .ref q5, .ref q6, .ref q7, .ref q8, .ref q9, .ref q10])), (q1, .inl (k0, 3000, .inl f105))]) (va_A [(q0, .inr (11, [.ref q1, .int (nI n0), .ref q2, .ref q3, .ref q4, .int x0, .int x1, .int x2, .ref q5, .ref q6, .ref q7, .ref q8, .ref q9, .ref q10])), (q1, .inl (k0, 3000, .inl f0))] sz)) 0 0 (va_A [(q0, .inr (11, [.ref q1, .int (nI n0), .ref q2, .ref q3, .ref q4, .int x0, .int x1, .int x2, .ref q5, .ref q6, .ref q7, .ref q8, .ref q9, .ref q10])), (q1, .inl (k0, 3000, .inl f0))] sz) := by
  refine Met.ofW (cc := cX11_feed) (maxL := 6) (ret := (some .int)) (by decide) rfl ?_
  intro p e s m args below meth c s₁ B hml hv
  obtain ⟨rfl, hsz, hP, hK, hD0, hE⟩ := hv
  have hx := B.exec
  have hb := B.bytes
  have hr := B.returns
  have hts := atoms_spec (ws := .code yX11_feed cX11_feed 6 (some .int) :: bigW) B.pre
  have hown : s.vm.findClass RX11 = some m.cls := findClass_of_methodNamed B.named
  have hlocks := B.notSynchronized
  subst hsz
  have hD := hD0.self (sz := s.heap.size)
  generalize hAe : va_A [(q0, .inr (11, [.ref q1, .int (nI n0), .ref q2, .ref q3, .ref q4, .int x0, .int x1, .int x2, .ref q5, .ref q6, .ref q7, .ref q8, .ref q9, .ref q10])), (q1, .inl (k0, 3000, .inl f0))] s.heap.size = A at hD hE ⊢
  have hN : q_N s := hE.2.2.2.1
  have hA : ∀ q : Nat, s.heap.size ≤ q → A q := fun q h => by rw [← hAe]; exact Or.inr h
  have hS : va_S A s.heap s.heap [] := va_S.rf
  have hP : va_P (dC, dI) classes [(q0, .inr (11, [.ref q1, .int (nI n0), .ref q2, .ref q3, .ref q4, .int x0, .int x1, .int x2, .ref q5, .ref q6, .ref q7, .ref q8, .ref q9, .ref q10])), (q1, .inl (k0, 3000, .inl f0))] s.heap := hP
  have hl := lv_entry ([.ref q0, .int p0, .int p1, .int p2, .int p3, .int p4]) (n := 6) (Nat.le_of_ble_eq_true rfl)
  rw [lg_entry_eq]
  generalize (lg_sl ([.ref q0, .int p0, .int p1, .int p2, .int p3, .int p4]) ++ List.replicate (6 - (lg_sl ([.ref q0, .int p0, .int p1, .int p2, .int p3, .int p4])).length) Slot.unset).toArray = ls at hl ⊢
  have hl : lv_has ls 6 [(0, .ref q0), (1, .int p0), (2, .int p1), (3, .int p2), (4, .int p3), (5, .int p4)] := hl
  refine lv_aload_n hx hb dX11_feed_0 rfl (lv_at hl 0 rfl) ?_
  refine va_get (D := (dC, dI)) (ci := 11) (v := .int (nI n0)) (C := RX11) (T := TX11) (N := 14) hx hb hts (fun w h => mc (in_X11 w h)) hown hK hP 0 rfl rfl 1 (by decide) (hts _ (mc m_5)) (fun _ h9 => h9) rfl dX11_feed_1 ?_
  refine lv_bipush (v := 20) hx hb dX11_feed_4 (by decide) ?_
  refine lv_iadd hx hb dX11_feed_6 ?_
  refine q_topi (nI (n0 + 20)) (nI_add _ 20) ?_
  refine lv_sipush (v := 3000) hx hb dX11_feed_7 (by decide) ?_
  refine lv_icmp_le (tgt := 15) hx hb dX11_feed_10 (by decide) (fun _ => ?_) (fun c9 => absurd (nI_le (b := 3000) (by omega) (by decide)) c9)
  refine lv_aload_n hx hb dX11_feed_15 rfl (lv_at hl 0 rfl) ?_
  refine lv_iload_n hx hb dX11_feed_16 rfl (lv_at hl 1 rfl) ?_
  have hPc := hP.sub (ws' := [(q0, .inr (11, [.ref q1, .int (nI n0), .ref q2, .ref q3, .ref q4, .int x0, .int x1, .int x2, .ref q5, .ref q6, .ref q7, .ref q8, .ref q9, .ref q10])), (q1, .inl (k0, 3000, .inl f0))]) [0, 1] rfl
  have hDc := hD.sub (ws' := [(q0, .inr (11, [.ref q1, .int (nI n0), .ref q2, .ref q3, .ref q4, .int x0, .int x1, .int x2, .ref q5, .ref q6, .ref q7, .ref q8, .ref q9, .ref q10])), (q1, .inl (k0, 3000, .inl f0))]) [0, 1] (by decide) rfl
  have hKc := hK.sub (tys' := [(k0, .byte)]) [0] rfl
  have hFc := va_free (wc := [(q0, .inr (11, [.ref q1, .int (nI n0), .ref q2, .ref q3, .ref q4, .int x0, .int x1, .int x2, .ref q5, .ref q6, .ref q7, .ref q8, .ref q9, .ref q10])), (q1, .inl (k0, 3000, .inl f0))]) hD hS hA [0, 1] rfl
  refine va_callv (va_runV (As := [.int p0]) (rest := []) ⟨hx, hb, hml, hown, hts⟩ (c_X11_feedNumber_0 l dC dI q0 p0 q1 n0 q2 q3 q4 x0 x1 x2 q5 q6 q7 q8 q9 q10 k0 f0 s.heap.size h1) (cwV 1 hts (gV m_252 m_253 m_254 m_251 m_250) rfl rfl rfl (by decide +kernel) ⟨Nat.le_of_ble_eq_true rfl, Nat.le_of_ble_eq_true rfl⟩) ⟨q_bl, va_recv hKc hPc (ci := 11) (q0 := 0) rfl rfl, q_pre hPc hKc hDc hE hS hFc⟩ rfl rfl hl.1 rfl (lv_room (Nat.le_of_ble_eq_true rfl)) dX11_feed_17 ⟨Nat.le_of_ble_eq_true rfl, Nat.le_of_ble_eq_true rfl⟩) hS (fun q _ h => hFc q h) hFc (fun u t H1 locs ht hvm hw hB hz1 hk1 hS => ?_)
  obtain ⟨f101, hP1, hK1, hD1⟩ := hB
  rw [ht] at hP1
  have hK1 := va_K.moved hvm.symm hK1
  obtain ⟨hP, hD⟩ := va_join (wr := []) (w1 := [(q0, .inr (11, [.ref q1, .int (nI (n0 + 4)), .ref q2, .ref q3, .ref q4, .int x0, .int x1, .int x2, .ref q5, .ref q6, .ref q7, .ref q8, .ref q9, .ref q10])), (q1, .inl (k0, 3000, .inl f101))]) hP hD [0, 1] [] rfl rfl (by decide) (by decide) hk1 hFc hP1 hD1
  have hK := (hK.sub (tys' := []) [] rfl).app hK1
  generalize H1 = H at hP hS ⊢
  have hP : va_P (dC, dI) classes [(q0, .inr (11, [.ref q1, .int (nI (n0 + 4)), .ref q2, .ref q3, .ref q4, .int x0, .int x1, .int x2, .ref q5, .ref q6, .ref q7, .ref q8, .ref q9, .ref q10])), (q1, .inl (k0, 3000, .inl f101))] H := hP
  have hD : va_D A [(q0, .inr (11, [.ref q1, .int (nI (n0 + 4)), .ref q2, .ref q3, .ref q4, .int x0, .int x1, .int x2, .ref q5, .ref q6, .ref q7, .ref q8, .ref q9, .ref q10])), (q1, .inl (k0, 3000, .inl f101))] := hD
  have hK : va_K (dC, dI) classes [(k0, .byte)] s := hK
  refine lv_aload_n hx hb dX11_feed_20 rfl (lv_at hl 0 rfl) ?_
  refine lv_iload_n hx hb dX11_feed_21 rfl (lv_at hl 2 rfl) ?_
  have hPc := hP.sub (ws' := [(q0, .inr (11, [.ref q1, .int (nI (n0 + 4)), .ref q2, .ref q3, .ref q4, .int x0, .int x1, .int x2, .ref q5, .ref q6, .ref q7, .ref q8, .ref q9, .ref q10])), (q1, .inl (k0, 3000, .inl f101))]) [0, 1] rfl
  have hDc := hD.sub (ws' := [(q0, .inr (11, [.ref q1, .int (nI (n0 + 4)), .ref q2, .ref q3, .ref q4, .int x0, .int x1, .int x2, .ref q5, .ref q6, .ref q7, .ref q8, .ref q9, .ref q10])), (q1, .inl (k0, 3000, .inl f101))]) [0, 1] (by decide) rfl
  have hKc := hK.sub (tys' := [(k0, .byte)]) [0] rfl
  have hFc := va_free (wc := [(q0, .inr (11, [.ref q1, .int (nI (n0 + 4)), .ref q2, .ref q3, .ref q4, .int x0, .int x1, .int x2, .ref q5, .ref q6, .ref q7, .ref q8, .ref q9, .ref q10])), (q1, .inl (k0, 3000, .inl f101))]) hD hS hA [0, 1] rfl
  refine va_callv (va_runV (As := [.int p1]) (rest := []) ⟨hx, hb, hml, hown, hts⟩ (c_X11_feedNumber_1 l dC dI q0 p1 q1 n0 q2 q3 q4 x0 x1 x2 q5 q6 q7 q8 q9 q10 k0 f101 H.size h1) (cwV 1 hts (gV m_252 m_253 m_254 m_251 m_250) rfl rfl rfl (by decide +kernel) ⟨Nat.le_of_ble_eq_true rfl, Nat.le_of_ble_eq_true rfl⟩) ⟨q_bl, va_recv hKc hPc (ci := 11) (q0 := 0) rfl rfl, q_pre hPc hKc hDc hE hS hFc⟩ rfl rfl hl.1 rfl (lv_room (Nat.le_of_ble_eq_true rfl)) dX11_feed_22 ⟨Nat.le_of_ble_eq_true rfl, Nat.le_of_ble_eq_true rfl⟩) hS (fun q _ h => hFc q h) hFc (fun u t H1 locs ht hvm hw hB hz1 hk1 hS => ?_)
  obtain ⟨f102, hP1, hK1, hD1⟩ := hB
  rw [ht] at hP1
  have hK1 := va_K.moved hvm.symm hK1
  obtain ⟨hP, hD⟩ := va_join (wr := []) (w1 := [(q0, .inr (11, [.ref q1, .int (nI (n0 + 8)), .ref q2, .ref q3, .ref q4, .int x0, .int x1, .int x2, .ref q5, .ref q6, .ref q7, .ref q8, .ref q9, .ref q10])), (q1, .inl (k0, 3000, .inl f102))]) hP hD [0, 1] [] rfl rfl (by decide) (by decide) hk1 hFc hP1 hD1
  have hK := (hK.sub (tys' := []) [] rfl).app hK1
  generalize H1 = H at hP hS ⊢
  have hP : va_P (dC, dI) classes [(q0, .inr (11, [.ref q1, .int (nI (n0 + 8)), .ref q2, .ref q3, .ref q4, .int x0, .int x1, .int x2, .ref q5, .ref q6, .ref q7, .ref q8, .ref q9, .ref q10])), (q1, .inl (k0, 3000, .inl f102))] H := hP
  have hD : va_D A [(q0, .inr (11, [.ref q1, .int (nI (n0 + 8)), .ref q2, .ref q3, .ref q4, .int x0, .int x1, .int x2, .ref q5, .ref q6, .ref q7, .ref q8, .ref q9, .ref q10])), (q1, .inl (k0, 3000, .inl f102))] := hD
  have hK : va_K (dC, dI) classes [(k0, .byte)] s := hK
  refine lv_aload_n hx hb dX11_feed_25 rfl (lv_at hl 0 rfl) ?_
  refine lv_iload_n hx hb dX11_feed_26 rfl (lv_at hl 3 rfl) ?_
  have hPc := hP.sub (ws' := [(q0, .inr (11, [.ref q1, .int (nI (n0 + 8)), .ref q2, .ref q3, .ref q4, .int x0, .int x1, .int x2, .ref q5, .ref q6, .ref q7, .ref q8, .ref q9, .ref q10])), (q1, .inl (k0, 3000, .inl f102))]) [0, 1] rfl
  have hDc := hD.sub (ws' := [(q0, .inr (11, [.ref q1, .int (nI (n0 + 8)), .ref q2, .ref q3, .ref q4, .int x0, .int x1, .int x2, .ref q5, .ref q6, .ref q7, .ref q8, .ref q9, .ref q10])), (q1, .inl (k0, 3000, .inl f102))]) [0, 1] (by decide) rfl
  have hKc := hK.sub (tys' := [(k0, .byte)]) [0] rfl
  have hFc := va_free (wc := [(q0, .inr (11, [.ref q1, .int (nI (n0 + 8)), .ref q2, .ref q3, .ref q4, .int x0, .int x1, .int x2, .ref q5, .ref q6, .ref q7, .ref q8, .ref q9, .ref q10])), (q1, .inl (k0, 3000, .inl f102))]) hD hS hA [0, 1] rfl
  refine va_callv (va_runV (As := [.int p2]) (rest := []) ⟨hx, hb, hml, hown, hts⟩ (c_X11_feedNumber_2 l dC dI q0 p2 q1 n0 q2 q3 q4 x0 x1 x2 q5 q6 q7 q8 q9 q10 k0 f102 H.size h1) (cwV 1 hts (gV m_252 m_253 m_254 m_251 m_250) rfl rfl rfl (by decide +kernel) ⟨Nat.le_of_ble_eq_true rfl, Nat.le_of_ble_eq_true rfl⟩) ⟨q_bl, va_recv hKc hPc (ci := 11) (q0 := 0) rfl rfl, q_pre hPc hKc hDc hE hS hFc⟩ rfl rfl hl.1 rfl (lv_room (Nat.le_of_ble_eq_true rfl)) dX11_feed_27 ⟨Nat.le_of_ble_eq_true rfl, Nat.le_of_ble_eq_true rfl⟩) hS (fun q _ h => hFc q h) hFc (fun u t H1 locs ht hvm hw hB hz1 hk1 hS => ?_)
  obtain ⟨f103, hP1, hK1, hD1⟩ := hB
  rw [ht] at hP1
  have hK1 := va_K.moved hvm.symm hK1
  obtain ⟨hP, hD⟩ := va_join (wr := []) (w1 := [(q0, .inr (11, [.ref q1, .int (nI (n0 + 12)), .ref q2, .ref q3, .ref q4, .int x0, .int x1, .int x2, .ref q5, .ref q6, .ref q7, .ref q8, .ref q9, .ref q10])), (q1, .inl (k0, 3000, .inl f103))]) hP hD [0, 1] [] rfl rfl (by decide) (by decide) hk1 hFc hP1 hD1
  have hK := (hK.sub (tys' := []) [] rfl).app hK1
  generalize H1 = H at hP hS ⊢
  have hP : va_P (dC, dI) classes [(q0, .inr (11, [.ref q1, .int (nI (n0 + 12)), .ref q2, .ref q3, .ref q4, .int x0, .int x1, .int x2, .ref q5, .ref q6, .ref q7, .ref q8, .ref q9, .ref q10])), (q1, .inl (k0, 3000, .inl f103))] H := hP
  have hD : va_D A [(q0, .inr (11, [.ref q1, .int (nI (n0 + 12)), .ref q2, .ref q3, .ref q4, .int x0, .int x1, .int x2, .ref q5, .ref q6, .ref q7, .ref q8, .ref q9, .ref q10])), (q1, .inl (k0, 3000, .inl f103))] := hD
  have hK : va_K (dC, dI) classes [(k0, .byte)] s := hK
  refine lv_aload_n hx hb dX11_feed_30 rfl (lv_at hl 0 rfl) ?_
  refine lv_iload hx hb dX11_feed_31 (lv_at hl 4 rfl) ?_
  have hPc := hP.sub (ws' := [(q0, .inr (11, [.ref q1, .int (nI (n0 + 12)), .ref q2, .ref q3, .ref q4, .int x0, .int x1, .int x2, .ref q5, .ref q6, .ref q7, .ref q8, .ref q9, .ref q10])), (q1, .inl (k0, 3000, .inl f103))]) [0, 1] rfl
  have hDc := hD.sub (ws' := [(q0, .inr (11, [.ref q1, .int (nI (n0 + 12)), .ref q2, .ref q3, .ref q4, .int x0, .int x1, .int x2, .ref q5, .ref q6, .ref q7, .ref q8, .ref q9, .ref q10])), (q1, .inl (k0, 3000, .inl f103))]) [0, 1] (by decide) rfl
  have hKc := hK.sub (tys' := [(k0, .byte)]) [0] rfl
  have hFc := va_free (wc := [(q0, .inr (11, [.ref q1, .int (nI (n0 + 12)), .ref q2, .ref q3, .ref q4, .int x0, .int x1, .int x2, .ref q5, .ref q6, .ref q7, .ref q8, .ref q9, .ref q10])), (q1, .inl (k0, 3000, .inl f103))]) hD hS hA [0, 1] rfl
  refine va_callv (va_runV (As := [.int p3]) (rest := []) ⟨hx, hb, hml, hown, hts⟩ (c_X11_feedNumber_3 l dC dI q0 p3 q1 n0 q2 q3 q4 x0 x1 x2 q5 q6 q7 q8 q9 q10 k0 f103 H.size h1) (cwV 1 hts (gV m_252 m_253 m_254 m_251 m_250) rfl rfl rfl (by decide +kernel) ⟨Nat.le_of_ble_eq_true rfl, Nat.le_of_ble_eq_true rfl⟩) ⟨q_bl, va_recv hKc hPc (ci := 11) (q0 := 0) rfl rfl, q_pre hPc hKc hDc hE hS hFc⟩ rfl rfl hl.1 rfl (lv_room (Nat.le_of_ble_eq_true rfl)) dX11_feed_33 ⟨Nat.le_of_ble_eq_true rfl, Nat.le_of_ble_eq_true rfl⟩) hS (fun q _ h => hFc q h) hFc (fun u t H1 locs ht hvm hw hB hz1 hk1 hS => ?_)
  obtain ⟨f104, hP1, hK1, hD1⟩ := hB
  rw [ht] at hP1
  have hK1 := va_K.moved hvm.symm hK1
  obtain ⟨hP, hD⟩ := va_join (wr := []) (w1 := [(q0, .inr (11, [.ref q1, .int (nI (n0 + 16)), .ref q2, .ref q3, .ref q4, .int x0, .int x1, .int x2, .ref q5, .ref q6, .ref q7, .ref q8, .ref q9, .ref q10])), (q1, .inl (k0, 3000, .inl f104))]) hP hD [0, 1] [] rfl rfl (by decide) (by decide) hk1 hFc hP1 hD1
  have hK := (hK.sub (tys' := []) [] rfl).app hK1
  generalize H1 = H at hP hS ⊢
  have hP : va_P (dC, dI) classes [(q0, .inr (11, [.ref q1, .int (nI (n0 + 16)), .ref q2, .ref q3, .ref q4, .int x0, .int x1, .int x2, .ref q5, .ref q6, .ref q7, .ref q8, .ref q9, .ref q10])), (q1, .inl (k0, 3000, .inl f104))] H := hP
  have hD : va_D A [(q0, .inr (11, [.ref q1, .int (nI (n0 + 16)), .ref q2, .ref q3, .ref q4, .int x0, .int x1, .int x2, .ref q5, .ref q6, .ref q7, .ref q8, .ref q9, .ref q10])), (q1, .inl (k0, 3000, .inl f104))] := hD
  have hK : va_K (dC, dI) classes [(k0, .byte)] s := hK
  refine lv_aload_n hx hb dX11_feed_36 rfl (lv_at hl 0 rfl) ?_
  refine lv_iload hx hb dX11_feed_37 (lv_at hl 5 rfl) ?_
  have hPc := hP.sub (ws' := [(q0, .inr (11, [.ref q1, .int (nI (n0 + 16)), .ref q2, .ref q3, .ref q4, .int x0, .int x1, .int x2, .ref q5, .ref q6, .ref q7, .ref q8, .ref q9, .ref q10])), (q1, .inl (k0, 3000, .inl f104))]) [0, 1] rfl
  have hDc := hD.sub (ws' := [(q0, .inr (11, [.ref q1, .int (nI (n0 + 16)), .ref q2, .ref q3, .ref q4, .int x0, .int x1, .int x2, .ref q5, .ref q6, .ref q7, .ref q8, .ref q9, .ref q10])), (q1, .inl (k0, 3000, .inl f104))]) [0, 1] (by decide) rfl
  have hKc := hK.sub (tys' := [(k0, .byte)]) [0] rfl
  have hFc := va_free (wc := [(q0, .inr (11, [.ref q1, .int (nI (n0 + 16)), .ref q2, .ref q3, .ref q4, .int x0, .int x1, .int x2, .ref q5, .ref q6, .ref q7, .ref q8, .ref q9, .ref q10])), (q1, .inl (k0, 3000, .inl f104))]) hD hS hA [0, 1] rfl
  refine va_callv (va_runV (As := [.int p4]) (rest := []) ⟨hx, hb, hml, hown, hts⟩ (c_X11_feedNumber_4 l dC dI q0 p4 q1 n0 q2 q3 q4 x0 x1 x2 q5 q6 q7 q8 q9 q10 k0 f104 H.size h1) (cwV 1 hts (gV m_252 m_253 m_254 m_251 m_250) rfl rfl rfl (by decide +kernel) ⟨Nat.le_of_ble_eq_true rfl, Nat.le_of_ble_eq_true rfl⟩) ⟨q_bl, va_recv hKc hPc (ci := 11) (q0 := 0) rfl rfl, q_pre hPc hKc hDc hE hS hFc⟩ rfl rfl hl.1 rfl (lv_room (Nat.le_of_ble_eq_true rfl)) dX11_feed_39 ⟨Nat.le_of_ble_eq_true rfl, Nat.le_of_ble_eq_true rfl⟩) hS (fun q _ h => hFc q h) hFc (fun u t H1 locs ht hvm hw hB hz1 hk1 hS => ?_)
  obtain ⟨f105, hP1, hK1, hD1⟩ := hB
  rw [ht] at hP1
  have hK1 := va_K.moved hvm.symm hK1
  obtain ⟨hP, hD⟩ := va_join (wr := []) (w1 := [(q0, .inr (11, [.ref q1, .int (nI (n0 + 20)), .ref q2, .ref q3, .ref q4, .int x0, .int x1, .int x2, .ref q5, .ref q6, .ref q7, .ref q8, .ref q9, .ref q10])), (q1, .inl (k0, 3000, .inl f105))]) hP hD [0, 1] [] rfl rfl (by decide) (by decide) hk1 hFc hP1 hD1
  have hK := (hK.sub (tys' := []) [] rfl).app hK1
  generalize H1 = H at hP hS ⊢
  have hP : va_P (dC, dI) classes [(q0, .inr (11, [.ref q1, .int (nI (n0 + 20)), .ref q2, .ref q3, .ref q4, .int x0, .int x1, .int x2, .ref q5, .ref q6, .ref q7, .ref q8, .ref q9, .ref q10])), (q1, .inl (k0, 3000, .inl f105))] H := hP
  have hD : va_D A [(q0, .inr (11, [.ref q1, .int (nI (n0 + 20)), .ref q2, .ref q3, .ref q4, .int x0, .int x1, .int x2, .ref q5, .ref q6, .ref q7, .ref q8, .ref q9, .ref q10])), (q1, .inl (k0, 3000, .inl f105))] := hD
  have hK : va_K (dC, dI) classes [(k0, .byte)] s := hK
  refine lv_aload_n hx hb dX11_feed_42 rfl (lv_at hl 0 rfl) ?_
  refine va_get (D := (dC, dI)) (ci := 11) (v := .int (nI (n0 + 20))) (C := RX11) (T := TX11) (N := 14) hx hb hts (fun w h => mc (in_X11 w h)) hown hK hP 0 rfl rfl 1 (by decide) (hts _ (mc m_5)) (fun _ h9 => h9) rfl dX11_feed_43 ?_
  exact W.iret (v := (nI (n0 + 20))) hx hb hr (fun t ht hW => ⟨⟨(nI (n0 + 20)), (), rfl, rfl, f105, by rw [ht]; exact hP, va_K.moved hW.alike hK, hD⟩, hS.F ht⟩) hS.2.2 dX11_feed_46
