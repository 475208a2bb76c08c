set_option maxHeartbeats 4000000 in
set_option maxRecDepth 100000 in
theorem c_X10_add_1 (l : Launch) (dC : Nat → ClassId) (dI : Nat → Nat → Nat) (q0 : Nat) (q1 : Nat) (q2 : Nat) (q3 : Nat) (q4 : Nat) (q5 : Nat) (q6 : Nat) (q7 : Nat) (k0 : ClassId) (k1 : ClassId) (k2 : ClassId) (k3 : ClassId) (k4 : ClassId) (k5 : ClassId) (sz : Nat) : Met l yX10_add (.code yX10_add cX10_add 6 (some .int) :: bigW) { frames := 1, cells := 0, slots := 0, locals := 22 } (va_Pc [.ref q0, .int 1, .int (-1), .int (-1), .int 1] (q_In dC dI [(q0, .inr (10, [.ref q1, .ref q2, .ref q3, .ref q4, .ref q5, .ref q6, .ref q7, .int 1, .int 0])), (q1, .inl (k0, 1600, .inl (upd (fun _ => 0) 0 0))), (q2, .inl (k1, 1600, .inl (upd (fun _ => 0) 0 (-1)))), (q3, .inl (k2, 1600, .inl (upd (fun _ => 0) 0 (-1)))), (q4, .inl (k3, 1600, .inl (upd (fun _ => 0) 0 1))), (q5, .inl (k4, 1600, .inl (upd (fun _ => 0) 0 (-1)))), (q6, .inl (k5, 1600, .inl (upd (fun _ => 0) 0 0)))] [(k0, .int), (k1, .int), (k2, .int), (k3, .int), (k4, .int), (k5, .int)] sz)) (va_Qi (fun (r9 : Int32) (_ : Unit) => r9 = 1) (fun _ t => va_P (dC, dI) classes [(q0, .inr (10, [.ref q1, .ref q2, .ref q3, .ref q4, .ref q5, .ref q6, .ref q7, .int 2, .int 0])), (q1, .inl (k0, 1600, .inl (upd (upd (fun _ => 0) 0 0) 1 1))), (q2, .inl (k1, 1600, .inl (upd (upd (fun _ => 0) 0 (-1)) 1 (-1)))), (q3, .inl (k2, 1600, .inl (upd (upd (fun _ => 0) 0 (-1)) 1 (-1)))), (q4, .inl (k3, 1600, .inl (upd (upd (fun _ => 0) 0 1) 1 1))), (q5, .inl (k4, 1600, .inl (upd (upd (fun _ => 0) 0 (-1)) 1 (-1)))), (q6, .inl (k5, 1600, .inl (upd (upd (fun _ => 0) 0 0) 1 0)))] t.heap ∧ va_K (dC, dI) classes [(k0, .int), (k1, .int), (k2, .int), (k3, .int), (k4, .int), (k5, .int)] t ∧ va_D (va_A [(q0, .inr (10, [.ref q1, .ref q2, .ref q3, .ref q4, .ref q5, .ref q6, .ref q7, .int 1, .int 0])), (q1, .inl (k0, 1600, .inl (upd (fun _ => 0) 0 0))), (q2, .inl (k1, 1600, .inl (upd (fun _ => 0) 0 (-1)))), (q3, .inl (k2, 1600, .inl (upd (fun _ => 0) 0 (-1)))), (q4, .inl (k3, 1600, .inl (upd (fun _ => 0) 0 1))), (q5, .inl (k4, 1600, .inl (upd (fun _ => 0) 0 (-1)))), (q6, .inl (k5, 1600, .inl (upd (fun _ => 0) 0 0)))] sz) [(q0, .inr (10, [.ref q1, .ref q2, .ref q3, .ref q4, .ref q5, .ref q6, .ref q7, .int 2, .int 0])), (q1, .inl (k0, 1600, .inl (upd (upd (fun _ => 0) 0 0) 1 1))), (q2, .inl (k1, 1600, .inl (upd (upd (fun _ => 0) 0 (-1)) 1 (-1)))), (q3, .inl (k2, 1600, .inl (upd (upd (fun _ => 0) 0 (-1)) 1 (-1)))), (q4, .inl (k3, 1600, .inl (upd (upd (fun _ => 0) 0 1) 1 1))), (q5, .inl (k4, 1600, .inl (upd (upd (fun _ => 0) 0 (-1)) 1 (-1)))), (q6, .inl (k5, 1600, .inl (upd (upd (fun _ => 0) 0 0) 1 0)))]) (va_A [(q0, .inr (10, [.ref q1, .ref q2, .ref q3, .ref q4, .ref q5, .ref q6, .ref q7, .int 1, .int 0])), (q1, .inl (k0, 1600, .inl (upd (fun _ => 0) 0 0))), (q2, .inl (k1, 1600, .inl (upd (fun _ => 0) 0 (-1)))), (q3, .inl (k2, 1600, .inl (upd (fun _ => 0) 0 (-1)))), (q4, .inl (k3, 1600, .inl (upd (fun _ => 0) 0 1))), (q5, .inl (k4, 1600, .inl (upd (fun _ => 0) 0 (-1)))), (q6, .inl (k5, 1600, .inl (upd (fun _ => 0) 0 0)))] sz)) 0 0 (va_A [(q0, .inr (10, [.ref q1, .ref q2, .ref q3, .ref q4, .ref q5, .ref q6, .ref q7, .int 1, .int 0])), (q1, .inl (k0, 1600, .inl (upd (fun _ => 0) 0 0))), (q2, .inl (k1, 1600, .inl (upd (fun _ => 0) 0 (-1)))), (q3, .inl (k2, 1600, .inl (upd (fun _ => 0) 0 (-1)))), (q4, .inl (k3, 1600, .inl (upd (fun _ => 0) 0 1))), (q5, .inl (k4, 1600, .inl (upd (fun _ => 0) 0 (-1)))), (q6, .inl (k5, 1600, .inl (upd (fun _ => 0) 0 0)))] sz) := by
  refine Met.ofW (cc := cX10_add) (maxL := 6) (ret := (some .int)) (by decide) rfl ?_
  intro p e s m args below meth c s₁ B hml hv
  obtain ⟨rfl, hsz, hP, hK, hD0, hE⟩ := hv
  have hx := B.exec
  have hb := B.bytes
  have hr := B.returns
  have hts := atoms_spec (ws := .code yX10_add cX10_add 6 (some .int) :: bigW) B.pre
  have hown : s.vm.findClass RX10 = some m.cls := findClass_of_methodNamed B.named
  have hlocks := B.notSynchronized
  subst hsz
  have hD := hD0.self (sz := s.heap.size)
  generalize hAe : va_A [(q0, .inr (10, [.ref q1, .ref q2, .ref q3, .ref q4, .ref q5, .ref q6, .ref q7, .int 1, .int 0])), (q1, .inl (k0, 1600, .inl (upd (fun _ => 0) 0 0))), (q2, .inl (k1, 1600, .inl (upd (fun _ => 0) 0 (-1)))), (q3, .inl (k2, 1600, .inl (upd (fun _ => 0) 0 (-1)))), (q4, .inl (k3, 1600, .inl (upd (fun _ => 0) 0 1))), (q5, .inl (k4, 1600, .inl (upd (fun _ => 0) 0 (-1)))), (q6, .inl (k5, 1600, .inl (upd (fun _ => 0) 0 0)))] s.heap.size = A at hD hE ⊢
  have hN : q_N s := hE.2.2.2.1
  have hA : ∀ q : Nat, s.heap.size ≤ q → A q := fun q h => by rw [← hAe]; exact Or.inr h
  have hS : va_S A s.heap s.heap [] := va_S.rf
  have hP : va_P (dC, dI) classes [(q0, .inr (10, [.ref q1, .ref q2, .ref q3, .ref q4, .ref q5, .ref q6, .ref q7, .int 1, .int 0])), (q1, .inl (k0, 1600, .inl (upd (fun _ => 0) 0 0))), (q2, .inl (k1, 1600, .inl (upd (fun _ => 0) 0 (-1)))), (q3, .inl (k2, 1600, .inl (upd (fun _ => 0) 0 (-1)))), (q4, .inl (k3, 1600, .inl (upd (fun _ => 0) 0 1))), (q5, .inl (k4, 1600, .inl (upd (fun _ => 0) 0 (-1)))), (q6, .inl (k5, 1600, .inl (upd (fun _ => 0) 0 0)))] s.heap := hP
  have hl := lv_entry ([.ref q0, .int 1, .int (-1), .int (-1), .int 1]) (n := 6) (Nat.le_of_ble_eq_true rfl)
  rw [lg_entry_eq]
  generalize (lg_sl ([.ref q0, .int 1, .int (-1), .int (-1), .int 1]) ++ List.replicate (6 - (lg_sl ([.ref q0, .int 1, .int (-1), .int (-1), .int 1])).length) Slot.unset).toArray = ls at hl ⊢
  have hl : lv_has ls 6 [(0, .ref q0), (1, .int 1), (2, .int (-1)), (3, .int (-1)), (4, .int 1)] := hl
  refine lv_aload_n hx hb dX10_add_0 rfl (lv_at hl 0 rfl) ?_
  refine va_get (D := (dC, dI)) (ci := 10) (v := .int 1) (C := RX10) (T := TX10) (N := 9) hx hb hts (fun w h => mc (in_X10 w h)) hown hK hP 0 rfl rfl 7 (by decide) (hts _ (mc m_46)) (fun _ h9 => h9) rfl dX10_add_1 ?_
  refine lv_sipush (v := 1600) hx hb dX10_add_4 (by decide) ?_
  refine lv_icmp_lt (tgt := 12) hx hb dX10_add_7 (by decide) (fun _ => ?_) (fun c9 => absurd (by decide) c9)
  refine lv_aload_n hx hb dX10_add_12 rfl (lv_at hl 0 rfl) ?_
  refine va_get (D := (dC, dI)) (ci := 10) (v := .int 1) (C := RX10) (T := TX10) (N := 9) hx hb hts (fun w h => mc (in_X10 w h)) hown hK hP 0 rfl rfl 7 (by decide) (hts _ (mc m_46)) (fun _ h9 => h9) rfl dX10_add_13 ?_
  refine lv_istore (lv' := [(5, .int 1), (0, .ref q0), (1, .int 1), (2, .int (-1)), (3, .int (-1)), (4, .int 1)]) hx hb dX10_add_16 hl (by decide) rfl (fun ls hl => ?_)
  refine lv_aload_n hx hb dX10_add_18 rfl (lv_at hl 1 rfl) ?_
  refine va_get (D := (dC, dI)) (ci := 10) (v := .ref q1) (C := RX10) (T := TX10) (N := 9) hx hb hts (fun w h => mc (in_X10 w h)) hown hK hP 0 rfl rfl 0 (by decide) (hts _ (mc m_39)) (fun _ h9 => h9) rfl dX10_add_19 ?_
  refine lv_iload hx hb dX10_add_22 (lv_at hl 0 rfl) ?_
  refine lv_iload_n hx hb dX10_add_24 rfl (lv_at hl 2 rfl) ?_
  have hPc := hP.sub (ws' := [(q1, .inl (k0, 1600, .inl (upd (fun _ => 0) 0 0)))]) [1] rfl
  have hDc := hD.sub (ws' := [(q1, .inl (k0, 1600, .inl (upd (fun _ => 0) 0 0)))]) [1] (by decide) rfl
  have hKc := hK.sub (tys' := [(k0, .int)]) [0] rfl
  have hFc := va_free (wc := [(q1, .inl (k0, 1600, .inl (upd (fun _ => 0) 0 0)))]) hD hS hA [1] rfl
  refine va_callv (va_runSN (As := [.ref q1, .int 1, .int 1]) (rest := []) ⟨hx, hb, hml, hown, hts⟩ (c_X11_put_3 l dC dI q1 k0 s.heap.size) ⟨va_cnB 3 hts (gI m_277) rfl rfl rfl (hN (RX10, 52, yX11_put, RX11) (List.mem_of_getElem? (i := 3) rfl)) (hts _ (mc m_251)) (by decide +kernel) ⟨Nat.le_of_ble_eq_true rfl, Nat.le_of_ble_eq_true rfl⟩, (hts _ (mc m_278)), trivial⟩ ⟨q_bl, q_pre hPc hKc hDc hE hS hFc⟩ rfl rfl hl.1 rfl (lv_room (Nat.le_of_ble_eq_true rfl)) dX10_add_25 ⟨Nat.le_of_ble_eq_true rfl, Nat.le_of_ble_eq_true rfl⟩) hS (fun q _ h => hFc q h) hFc (fun u t H1 locs ht hvm hw hB hz1 hk1 hS => ?_)
  obtain ⟨hP1, hK1, hD1⟩ := hB
  rw [ht] at hP1
  have hK1 := va_K.moved hvm.symm hK1
  obtain ⟨hP, hD⟩ := va_join (wr := [(q0, .inr (10, [.ref q1, .ref q2, .ref q3, .ref q4, .ref q5, .ref q6, .ref q7, .int 1, .int 0])), (q2, .inl (k1, 1600, .inl (upd (fun _ => 0) 0 (-1)))), (q3, .inl (k2, 1600, .inl (upd (fun _ => 0) 0 (-1)))), (q4, .inl (k3, 1600, .inl (upd (fun _ => 0) 0 1))), (q5, .inl (k4, 1600, .inl (upd (fun _ => 0) 0 (-1)))), (q6, .inl (k5, 1600, .inl (upd (fun _ => 0) 0 0)))]) (w1 := [(q1, .inl (k0, 1600, .inl (upd (upd (fun _ => 0) 0 0) 1 1)))]) hP hD [1] [0, 2, 3, 4, 5, 6] rfl rfl (by decide) (by decide) hk1 hFc hP1 hD1
  have hK := (hK.sub (tys' := [(k1, .int), (k2, .int), (k3, .int), (k4, .int), (k5, .int)]) [1, 2, 3, 4, 5] rfl).app hK1
  generalize H1 = H at hP hS ⊢
  have hP : va_P (dC, dI) classes [(q0, .inr (10, [.ref q1, .ref q2, .ref q3, .ref q4, .ref q5, .ref q6, .ref q7, .int 1, .int 0])), (q2, .inl (k1, 1600, .inl (upd (fun _ => 0) 0 (-1)))), (q3, .inl (k2, 1600, .inl (upd (fun _ => 0) 0 (-1)))), (q4, .inl (k3, 1600, .inl (upd (fun _ => 0) 0 1))), (q5, .inl (k4, 1600, .inl (upd (fun _ => 0) 0 (-1)))), (q6, .inl (k5, 1600, .inl (upd (fun _ => 0) 0 0))), (q1, .inl (k0, 1600, .inl (upd (upd (fun _ => 0) 0 0) 1 1)))] H := hP
  have hD : va_D A [(q0, .inr (10, [.ref q1, .ref q2, .ref q3, .ref q4, .ref q5, .ref q6, .ref q7, .int 1, .int 0])), (q2, .inl (k1, 1600, .inl (upd (fun _ => 0) 0 (-1)))), (q3, .inl (k2, 1600, .inl (upd (fun _ => 0) 0 (-1)))), (q4, .inl (k3, 1600, .inl (upd (fun _ => 0) 0 1))), (q5, .inl (k4, 1600, .inl (upd (fun _ => 0) 0 (-1)))), (q6, .inl (k5, 1600, .inl (upd (fun _ => 0) 0 0))), (q1, .inl (k0, 1600, .inl (upd (upd (fun _ => 0) 0 0) 1 1)))] := hD
  have hK : va_K (dC, dI) classes [(k1, .int), (k2, .int), (k3, .int), (k4, .int), (k5, .int), (k0, .int)] s := hK
  refine lv_aload_n hx hb dX10_add_28 rfl (lv_at hl 1 rfl) ?_
  refine va_get (D := (dC, dI)) (ci := 10) (v := .ref q2) (C := RX10) (T := TX10) (N := 9) hx hb hts (fun w h => mc (in_X10 w h)) hown hK hP 0 rfl rfl 1 (by decide) (hts _ (mc m_40)) (fun _ h9 => h9) rfl dX10_add_29 ?_
  refine lv_iload hx hb dX10_add_32 (lv_at hl 0 rfl) ?_
  refine lv_iload_n hx hb dX10_add_34 rfl (lv_at hl 3 rfl) ?_
  have hPc := hP.sub (ws' := [(q2, .inl (k1, 1600, .inl (upd (fun _ => 0) 0 (-1))))]) [1] rfl
  have hDc := hD.sub (ws' := [(q2, .inl (k1, 1600, .inl (upd (fun _ => 0) 0 (-1))))]) [1] (by decide) rfl
  have hKc := hK.sub (tys' := [(k1, .int)]) [0] rfl
  have hFc := va_free (wc := [(q2, .inl (k1, 1600, .inl (upd (fun _ => 0) 0 (-1))))]) hD hS hA [1] rfl
  refine va_callv (va_runSN (As := [.ref q2, .int 1, .int (-1)]) (rest := []) ⟨hx, hb, hml, hown, hts⟩ (c_X11_put_4 l dC dI q2 k1 H.size) ⟨va_cnB 3 hts (gI m_277) rfl rfl rfl (hN (RX10, 52, yX11_put, RX11) (List.mem_of_getElem? (i := 3) rfl)) (hts _ (mc m_251)) (by decide +kernel) ⟨Nat.le_of_ble_eq_true rfl, Nat.le_of_ble_eq_true rfl⟩, (hts _ (mc m_278)), trivial⟩ ⟨q_bl, q_pre hPc hKc hDc hE hS hFc⟩ rfl rfl hl.1 rfl (lv_room (Nat.le_of_ble_eq_true rfl)) dX10_add_35 ⟨Nat.le_of_ble_eq_true rfl, Nat.le_of_ble_eq_true rfl⟩) hS (fun q _ h => hFc q h) hFc (fun u t H1 locs ht hvm hw hB hz1 hk1 hS => ?_)
  obtain ⟨hP1, hK1, hD1⟩ := hB
  rw [ht] at hP1
  have hK1 := va_K.moved hvm.symm hK1
  obtain ⟨hP, hD⟩ := va_join (wr := [(q0, .inr (10, [.ref q1, .ref q2, .ref q3, .ref q4, .ref q5, .ref q6, .ref q7, .int 1, .int 0])), (q3, .inl (k2, 1600, .inl (upd (fun _ => 0) 0 (-1)))), (q4, .inl (k3, 1600, .inl (upd (fun _ => 0) 0 1))), (q5, .inl (k4, 1600, .inl (upd (fun _ => 0) 0 (-1)))), (q6, .inl (k5, 1600, .inl (upd (fun _ => 0) 0 0))), (q1, .inl (k0, 1600, .inl (upd (upd (fun _ => 0) 0 0) 1 1)))]) (w1 := [(q2, .inl (k1, 1600, .inl (upd (upd (fun _ => 0) 0 (-1)) 1 (-1))))]) hP hD [1] [0, 2, 3, 4, 5, 6] rfl rfl (by decide) (by decide) hk1 hFc hP1 hD1
  have hK := (hK.sub (tys' := [(k2, .int), (k3, .int), (k4, .int), (k5, .int), (k0, .int)]) [1, 2, 3, 4, 5] rfl).app hK1
  generalize H1 = H at hP hS ⊢
  have hP : va_P (dC, dI) classes [(q0, .inr (10, [.ref q1, .ref q2, .ref q3, .ref q4, .ref q5, .ref q6, .ref q7, .int 1, .int 0])), (q3, .inl (k2, 1600, .inl (upd (fun _ => 0) 0 (-1)))), (q4, .inl (k3, 1600, .inl (upd (fun _ => 0) 0 1))), (q5, .inl (k4, 1600, .inl (upd (fun _ => 0) 0 (-1)))), (q6, .inl (k5, 1600, .inl (upd (fun _ => 0) 0 0))), (q1, .inl (k0, 1600, .inl (upd (upd (fun _ => 0) 0 0) 1 1))), (q2, .inl (k1, 1600, .inl (upd (upd (fun _ => 0) 0 (-1)) 1 (-1))))] H := hP
  have hD : va_D A [(q0, .inr (10, [.ref q1, .ref q2, .ref q3, .ref q4, .ref q5, .ref q6, .ref q7, .int 1, .int 0])), (q3, .inl (k2, 1600, .inl (upd (fun _ => 0) 0 (-1)))), (q4, .inl (k3, 1600, .inl (upd (fun _ => 0) 0 1))), (q5, .inl (k4, 1600, .inl (upd (fun _ => 0) 0 (-1)))), (q6, .inl (k5, 1600, .inl (upd (fun _ => 0) 0 0))), (q1, .inl (k0, 1600, .inl (upd (upd (fun _ => 0) 0 0) 1 1))), (q2, .inl (k1, 1600, .inl (upd (upd (fun _ => 0) 0 (-1)) 1 (-1))))] := hD
  have hK : va_K (dC, dI) classes [(k2, .int), (k3, .int), (k4, .int), (k5, .int), (k0, .int), (k1, .int)] s := hK
  refine lv_aload_n hx hb dX10_add_38 rfl (lv_at hl 1 rfl) ?_
  refine va_get (D := (dC, dI)) (ci := 10) (v := .ref q3) (C := RX10) (T := TX10) (N := 9) hx hb hts (fun w h => mc (in_X10 w h)) hown hK hP 0 rfl rfl 2 (by decide) (hts _ (mc m_41)) (fun _ h9 => h9) rfl dX10_add_39 ?_
  refine lv_iload hx hb dX10_add_42 (lv_at hl 0 rfl) ?_
  refine lv_iload_n hx hb dX10_add_44 rfl (lv_at hl 4 rfl) ?_
  have hPc := hP.sub (ws' := [(q3, .inl (k2, 1600, .inl (upd (fun _ => 0) 0 (-1))))]) [1] rfl
  have hDc := hD.sub (ws' := [(q3, .inl (k2, 1600, .inl (upd (fun _ => 0) 0 (-1))))]) [1] (by decide) rfl
  have hKc := hK.sub (tys' := [(k2, .int)]) [0] rfl
  have hFc := va_free (wc := [(q3, .inl (k2, 1600, .inl (upd (fun _ => 0) 0 (-1))))]) hD hS hA [1] rfl
  refine va_callv (va_runSN (As := [.ref q3, .int 1, .int (-1)]) (rest := []) ⟨hx, hb, hml, hown, hts⟩ (c_X11_put_4 l dC dI q3 k2 H.size) ⟨va_cnB 3 hts (gI m_277) rfl rfl rfl (hN (RX10, 52, yX11_put, RX11) (List.mem_of_getElem? (i := 3) rfl)) (hts _ (mc m_251)) (by decide +kernel) ⟨Nat.le_of_ble_eq_true rfl, Nat.le_of_ble_eq_true rfl⟩, (hts _ (mc m_278)), trivial⟩ ⟨q_bl, q_pre hPc hKc hDc hE hS hFc⟩ rfl rfl hl.1 rfl (lv_room (Nat.le_of_ble_eq_true rfl)) dX10_add_45 ⟨Nat.le_of_ble_eq_true rfl, Nat.le_of_ble_eq_true rfl⟩) hS (fun q _ h => hFc q h) hFc (fun u t H1 locs ht hvm hw hB hz1 hk1 hS => ?_)
  obtain ⟨hP1, hK1, hD1⟩ := hB
  rw [ht] at hP1
  have hK1 := va_K.moved hvm.symm hK1
  obtain ⟨hP, hD⟩ := va_join (wr := [(q0, .inr (10, [.ref q1, .ref q2, .ref q3, .ref q4, .ref q5, .ref q6, .ref q7, .int 1, .int 0])), (q4, .inl (k3, 1600, .inl (upd (fun _ => 0) 0 1))), (q5, .inl (k4, 1600, .inl (upd (fun _ => 0) 0 (-1)))), (q6, .inl (k5, 1600, .inl (upd (fun _ => 0) 0 0))), (q1, .inl (k0, 1600, .inl (upd (upd (fun _ => 0) 0 0) 1 1))), (q2, .inl (k1, 1600, .inl (upd (upd (fun _ => 0) 0 (-1)) 1 (-1))))]) (w1 := [(q3, .inl (k2, 1600, .inl (upd (upd (fun _ => 0) 0 (-1)) 1 (-1))))]) hP hD [1] [0, 2, 3, 4, 5, 6] rfl rfl (by decide) (by decide) hk1 hFc hP1 hD1
  have hK := (hK.sub (tys' := [(k3, .int), (k4, .int), (k5, .int), (k0, .int), (k1, .int)]) [1, 2, 3, 4, 5] rfl).app hK1
  generalize H1 = H at hP hS ⊢
  have hP : va_P (dC, dI) classes [(q0, .inr (10, [.ref q1, .ref q2, .ref q3, .ref q4, .ref q5, .ref q6, .ref q7, .int 1, .int 0])), (q4, .inl (k3, 1600, .inl (upd (fun _ => 0) 0 1))), (q5, .inl (k4, 1600, .inl (upd (fun _ => 0) 0 (-1)))), (q6, .inl (k5, 1600, .inl (upd (fun _ => 0) 0 0))), (q1, .inl (k0, 1600, .inl (upd (upd (fun _ => 0) 0 0) 1 1))), (q2, .inl (k1, 1600, .inl (upd (upd (fun _ => 0) 0 (-1)) 1 (-1)))), (q3, .inl (k2, 1600, .inl (upd (upd (fun _ => 0) 0 (-1)) 1 (-1))))] H := hP
  have hD : va_D A [(q0, .inr (10, [.ref q1, .ref q2, .ref q3, .ref q4, .ref q5, .ref q6, .ref q7, .int 1, .int 0])), (q4, .inl (k3, 1600, .inl (upd (fun _ => 0) 0 1))), (q5, .inl (k4, 1600, .inl (upd (fun _ => 0) 0 (-1)))), (q6, .inl (k5, 1600, .inl (upd (fun _ => 0) 0 0))), (q1, .inl (k0, 1600, .inl (upd (upd (fun _ => 0) 0 0) 1 1))), (q2, .inl (k1, 1600, .inl (upd (upd (fun _ => 0) 0 (-1)) 1 (-1)))), (q3, .inl (k2, 1600, .inl (upd (upd (fun _ => 0) 0 (-1)) 1 (-1))))] := hD
  have hK : va_K (dC, dI) classes [(k3, .int), (k4, .int), (k5, .int), (k0, .int), (k1, .int), (k2, .int)] s := hK
  refine lv_aload_n hx hb dX10_add_48 rfl (lv_at hl 1 rfl) ?_
  refine va_get (D := (dC, dI)) (ci := 10) (v := .ref q4) (C := RX10) (T := TX10) (N := 9) hx hb hts (fun w h => mc (in_X10 w h)) hown hK hP 0 rfl rfl 3 (by decide) (hts _ (mc m_42)) (fun _ h9 => h9) rfl dX10_add_49 ?_
  refine lv_iload hx hb dX10_add_52 (lv_at hl 0 rfl) ?_
  refine lv_iload hx hb dX10_add_54 (lv_at hl 5 rfl) ?_
  have hPc := hP.sub (ws' := [(q4, .inl (k3, 1600, .inl (upd (fun _ => 0) 0 1)))]) [1] rfl
  have hDc := hD.sub (ws' := [(q4, .inl (k3, 1600, .inl (upd (fun _ => 0) 0 1)))]) [1] (by decide) rfl
  have hKc := hK.sub (tys' := [(k3, .int)]) [0] rfl
  have hFc := va_free (wc := [(q4, .inl (k3, 1600, .inl (upd (fun _ => 0) 0 1)))]) hD hS hA [1] rfl
  refine va_callv (va_runSN (As := [.ref q4, .int 1, .int 1]) (rest := []) ⟨hx, hb, hml, hown, hts⟩ (c_X11_put_5 l dC dI q4 k3 H.size) ⟨va_cnB 3 hts (gI m_277) rfl rfl rfl (hN (RX10, 52, yX11_put, RX11) (List.mem_of_getElem? (i := 3) rfl)) (hts _ (mc m_251)) (by decide +kernel) ⟨Nat.le_of_ble_eq_true rfl, Nat.le_of_ble_eq_true rfl⟩, (hts _ (mc m_278)), trivial⟩ ⟨q_bl, q_pre hPc hKc hDc hE hS hFc⟩ rfl rfl hl.1 rfl (lv_room (Nat.le_of_ble_eq_true rfl)) dX10_add_56 ⟨Nat.le_of_ble_eq_true rfl, Nat.le_of_ble_eq_true rfl⟩) hS (fun q _ h => hFc q h) hFc (fun u t H1 locs ht hvm hw hB hz1 hk1 hS => ?_)
  obtain ⟨hP1, hK1, hD1⟩ := hB
  rw [ht] at hP1
  have hK1 := va_K.moved hvm.symm hK1
  obtain ⟨hP, hD⟩ := va_join (wr := [(q0, .inr (10, [.ref q1, .ref q2, .ref q3, .ref q4, .ref q5, .ref q6, .ref q7, .int 1, .int 0])), (q5, .inl (k4, 1600, .inl (upd (fun _ => 0) 0 (-1)))), (q6, .inl (k5, 1600, .inl (upd (fun _ => 0) 0 0))), (q1, .inl (k0, 1600, .inl (upd (upd (fun _ => 0) 0 0) 1 1))), (q2, .inl (k1, 1600, .inl (upd (upd (fun _ => 0) 0 (-1)) 1 (-1)))), (q3, .inl (k2, 1600, .inl (upd (upd (fun _ => 0) 0 (-1)) 1 (-1))))]) (w1 := [(q4, .inl (k3, 1600, .inl (upd (upd (fun _ => 0) 0 1) 1 1)))]) hP hD [1] [0, 2, 3, 4, 5, 6] rfl rfl (by decide) (by decide) hk1 hFc hP1 hD1
  have hK := (hK.sub (tys' := [(k4, .int), (k5, .int), (k0, .int), (k1, .int), (k2, .int)]) [1, 2, 3, 4, 5] rfl).app hK1
  generalize H1 = H at hP hS ⊢
  have hP : va_P (dC, dI) classes [(q0, .inr (10, [.ref q1, .ref q2, .ref q3, .ref q4, .ref q5, .ref q6, .ref q7, .int 1, .int 0])), (q5, .inl (k4, 1600, .inl (upd (fun _ => 0) 0 (-1)))), (q6, .inl (k5, 1600, .inl (upd (fun _ => 0) 0 0))), (q1, .inl (k0, 1600, .inl (upd (upd (fun _ => 0) 0 0) 1 1))), (q2, .inl (k1, 1600, .inl (upd (upd (fun _ => 0) 0 (-1)) 1 (-1)))), (q3, .inl (k2, 1600, .inl (upd (upd (fun _ => 0) 0 (-1)) 1 (-1)))), (q4, .inl (k3, 1600, .inl (upd (upd (fun _ => 0) 0 1) 1 1)))] H := hP
  have hD : va_D A [(q0, .inr (10, [.ref q1, .ref q2, .ref q3, .ref q4, .ref q5, .ref q6, .ref q7, .int 1, .int 0])), (q5, .inl (k4, 1600, .inl (upd (fun _ => 0) 0 (-1)))), (q6, .inl (k5, 1600, .inl (upd (fun _ => 0) 0 0))), (q1, .inl (k0, 1600, .inl (upd (upd (fun _ => 0) 0 0) 1 1))), (q2, .inl (k1, 1600, .inl (upd (upd (fun _ => 0) 0 (-1)) 1 (-1)))), (q3, .inl (k2, 1600, .inl (upd (upd (fun _ => 0) 0 (-1)) 1 (-1)))), (q4, .inl (k3, 1600, .inl (upd (upd (fun _ => 0) 0 1) 1 1)))] := hD
  have hK : va_K (dC, dI) classes [(k4, .int), (k5, .int), (k0, .int), (k1, .int), (k2, .int), (k3, .int)] s := hK
  refine lv_aload_n hx hb dX10_add_59 rfl (lv_at hl 1 rfl) ?_
  refine va_get (D := (dC, dI)) (ci := 10) (v := .ref q5) (C := RX10) (T := TX10) (N := 9) hx hb hts (fun w h => mc (in_X10 w h)) hown hK hP 0 rfl rfl 4 (by decide) (hts _ (mc m_43)) (fun _ h9 => h9) rfl dX10_add_60 ?_
  refine lv_iload hx hb dX10_add_63 (lv_at hl 0 rfl) ?_
  refine lv_iconst (v := (-1)) hx hb dX10_add_65 (by decide) ?_
  have hPc := hP.sub (ws' := [(q5, .inl (k4, 1600, .inl (upd (fun _ => 0) 0 (-1))))]) [1] rfl
  have hDc := hD.sub (ws' := [(q5, .inl (k4, 1600, .inl (upd (fun _ => 0) 0 (-1))))]) [1] (by decide) rfl
  have hKc := hK.sub (tys' := [(k4, .int)]) [0] rfl
  have hFc := va_free (wc := [(q5, .inl (k4, 1600, .inl (upd (fun _ => 0) 0 (-1))))]) hD hS hA [1] rfl
  refine va_callv (va_runSN (As := [.ref q5, .int 1, .int (-1)]) (rest := []) ⟨hx, hb, hml, hown, hts⟩ (c_X11_put_4 l dC dI q5 k4 H.size) ⟨va_cnB 3 hts (gI m_277) rfl rfl rfl (hN (RX10, 52, yX11_put, RX11) (List.mem_of_getElem? (i := 3) rfl)) (hts _ (mc m_251)) (by decide +kernel) ⟨Nat.le_of_ble_eq_true rfl, Nat.le_of_ble_eq_true rfl⟩, (hts _ (mc m_278)), trivial⟩ ⟨q_bl, q_pre hPc hKc hDc hE hS hFc⟩ rfl rfl hl.1 rfl (lv_room (Nat.le_of_ble_eq_true rfl)) dX10_add_66 ⟨Nat.le_of_ble_eq_true rfl, Nat.le_of_ble_eq_true rfl⟩) hS (fun q _ h => hFc q h) hFc (fun u t H1 locs ht hvm hw hB hz1 hk1 hS => ?_)
  obtain ⟨hP1, hK1, hD1⟩ := hB
  rw [ht] at hP1
  have hK1 := va_K.moved hvm.symm hK1
  obtain ⟨hP, hD⟩ := va_join (wr := [(q0, .inr (10, [.ref q1, .ref q2, .ref q3, .ref q4, .ref q5, .ref q6, .ref q7, .int 1, .int 0])), (q6, .inl (k5, 1600, .inl (upd (fun _ => 0) 0 0))), (q1, .inl (k0, 1600, .inl (upd (upd (fun _ => 0) 0 0) 1 1))), (q2, .inl (k1, 1600, .inl (upd (upd (fun _ => 0) 0 (-1)) 1 (-1)))), (q3, .inl (k2, 1600, .inl (upd (upd (fun _ => 0) 0 (-1)) 1 (-1)))), (q4, .inl (k3, 1600, .inl (upd (upd (fun _ => 0) 0 1) 1 1)))]) (w1 := [(q5, .inl (k4, 1600, .inl (upd (upd (fun _ => 0) 0 (-1)) 1 (-1))))]) hP hD [1] [0, 2, 3, 4, 5, 6] rfl rfl (by decide) (by decide) hk1 hFc hP1 hD1
  have hK := (hK.sub (tys' := [(k5, .int), (k0, .int), (k1, .int), (k2, .int), (k3, .int)]) [1, 2, 3, 4, 5] rfl).app hK1
  generalize H1 = H at hP hS ⊢
  have hP : va_P (dC, dI) classes [(q0, .inr (10, [.ref q1, .ref q2, .ref q3, .ref q4, .ref q5, .ref q6, .ref q7, .int 1, .int 0])), (q6, .inl (k5, 1600, .inl (upd (fun _ => 0) 0 0))), (q1, .inl (k0, 1600, .inl (upd (upd (fun _ => 0) 0 0) 1 1))), (q2, .inl (k1, 1600, .inl (upd (upd (fun _ => 0) 0 (-1)) 1 (-1)))), (q3, .inl (k2, 1600, .inl (upd (upd (fun _ => 0) 0 (-1)) 1 (-1)))), (q4, .inl (k3, 1600, .inl (upd (upd (fun _ => 0) 0 1) 1 1))), (q5, .inl (k4, 1600, .inl (upd (upd (fun _ => 0) 0 (-1)) 1 (-1))))] H := hP
  have hD : va_D A [(q0, .inr (10, [.ref q1, .ref q2, .ref q3, .ref q4, .ref q5, .ref q6, .ref q7, .int 1, .int 0])), (q6, .inl (k5, 1600, .inl (upd (fun _ => 0) 0 0))), (q1, .inl (k0, 1600, .inl (upd (upd (fun _ => 0) 0 0) 1 1))), (q2, .inl (k1, 1600, .inl (upd (upd (fun _ => 0) 0 (-1)) 1 (-1)))), (q3, .inl (k2, 1600, .inl (upd (upd (fun _ => 0) 0 (-1)) 1 (-1)))), (q4, .inl (k3, 1600, .inl (upd (upd (fun _ => 0) 0 1) 1 1))), (q5, .inl (k4, 1600, .inl (upd (upd (fun _ => 0) 0 (-1)) 1 (-1))))] := hD
  have hK : va_K (dC, dI) classes [(k5, .int), (k0, .int), (k1, .int), (k2, .int), (k3, .int), (k4, .int)] s := hK
  refine lv_aload_n hx hb dX10_add_69 rfl (lv_at hl 1 rfl) ?_
  refine va_get (D := (dC, dI)) (ci := 10) (v := .ref q6) (C := RX10) (T := TX10) (N := 9) hx hb hts (fun w h => mc (in_X10 w h)) hown hK hP 0 rfl rfl 5 (by decide) (hts _ (mc m_44)) (fun _ h9 => h9) rfl dX10_add_70 ?_
  refine lv_iload hx hb dX10_add_73 (lv_at hl 0 rfl) ?_
  refine lv_iconst (v := 0) hx hb dX10_add_75 (by decide) ?_
  have hPc := hP.sub (ws' := [(q6, .inl (k5, 1600, .inl (upd (fun _ => 0) 0 0)))]) [1] rfl
  have hDc := hD.sub (ws' := [(q6, .inl (k5, 1600, .inl (upd (fun _ => 0) 0 0)))]) [1] (by decide) rfl
  have hKc := hK.sub (tys' := [(k5, .int)]) [0] rfl
  have hFc := va_free (wc := [(q6, .inl (k5, 1600, .inl (upd (fun _ => 0) 0 0)))]) hD hS hA [1] rfl
  refine va_callv (va_runSN (As := [.ref q6, .int 1, .int 0]) (rest := []) ⟨hx, hb, hml, hown, hts⟩ (c_X11_put_6 l dC dI q6 k5 H.size) ⟨va_cnB 3 hts (gI m_277) rfl rfl rfl (hN (RX10, 52, yX11_put, RX11) (List.mem_of_getElem? (i := 3) rfl)) (hts _ (mc m_251)) (by decide +kernel) ⟨Nat.le_of_ble_eq_true rfl, Nat.le_of_ble_eq_true rfl⟩, (hts _ (mc m_278)), trivial⟩ ⟨q_bl, q_pre hPc hKc hDc hE hS hFc⟩ rfl rfl hl.1 rfl (lv_room (Nat.le_of_ble_eq_true rfl)) dX10_add_76 ⟨Nat.le_of_ble_eq_true rfl, Nat.le_of_ble_eq_true rfl⟩) hS (fun q _ h => hFc q h) hFc (fun u t H1 locs ht hvm hw hB hz1 hk1 hS => ?_)
  obtain ⟨hP1, hK1, hD1⟩ := hB
  rw [ht] at hP1
  have hK1 := va_K.moved hvm.symm hK1
  obtain ⟨hP, hD⟩ := va_join (wr := [(q0, .inr (10, [.ref q1, .ref q2, .ref q3, .ref q4, .ref q5, .ref q6, .ref q7, .int 1, .int 0])), (q1, .inl (k0, 1600, .inl (upd (upd (fun _ => 0) 0 0) 1 1))), (q2, .inl (k1, 1600, .inl (upd (upd (fun _ => 0) 0 (-1)) 1 (-1)))), (q3, .inl (k2, 1600, .inl (upd (upd (fun _ => 0) 0 (-1)) 1 (-1)))), (q4, .inl (k3, 1600, .inl (upd (upd (fun _ => 0) 0 1) 1 1))), (q5, .inl (k4, 1600, .inl (upd (upd (fun _ => 0) 0 (-1)) 1 (-1))))]) (w1 := [(q6, .inl (k5, 1600, .inl (upd (upd (fun _ => 0) 0 0) 1 0)))]) hP hD [1] [0, 2, 3, 4, 5, 6] rfl rfl (by decide) (by decide) hk1 hFc hP1 hD1
  have hK := (hK.sub (tys' := [(k0, .int), (k1, .int), (k2, .int), (k3, .int), (k4, .int)]) [1, 2, 3, 4, 5] rfl).app hK1
  generalize H1 = H at hP hS ⊢
  have hP : va_P (dC, dI) classes [(q0, .inr (10, [.ref q1, .ref q2, .ref q3, .ref q4, .ref q5, .ref q6, .ref q7, .int 1, .int 0])), (q1, .inl (k0, 1600, .inl (upd (upd (fun _ => 0) 0 0) 1 1))), (q2, .inl (k1, 1600, .inl (upd (upd (fun _ => 0) 0 (-1)) 1 (-1)))), (q3, .inl (k2, 1600, .inl (upd (upd (fun _ => 0) 0 (-1)) 1 (-1)))), (q4, .inl (k3, 1600, .inl (upd (upd (fun _ => 0) 0 1) 1 1))), (q5, .inl (k4, 1600, .inl (upd (upd (fun _ => 0) 0 (-1)) 1 (-1)))), (q6, .inl (k5, 1600, .inl (upd (upd (fun _ => 0) 0 0) 1 0)))] H := hP
  have hD : va_D A [(q0, .inr (10, [.ref q1, .ref q2, .ref q3, .ref q4, .ref q5, .ref q6, .ref q7, .int 1, .int 0])), (q1, .inl (k0, 1600, .inl (upd (upd (fun _ => 0) 0 0) 1 1))), (q2, .inl (k1, 1600, .inl (upd (upd (fun _ => 0) 0 (-1)) 1 (-1)))), (q3, .inl (k2, 1600, .inl (upd (upd (fun _ => 0) 0 (-1)) 1 (-1)))), (q4, .inl (k3, 1600, .inl (upd (upd (fun _ => 0) 0 1) 1 1))), (q5, .inl (k4, 1600, .inl (upd (upd (fun _ => 0) 0 (-1)) 1 (-1)))), (q6, .inl (k5, 1600, .inl (upd (upd (fun _ => 0) 0 0) 1 0)))] := hD
  have hK : va_K (dC, dI) classes [(k0, .int), (k1, .int), (k2, .int), (k3, .int), (k4, .int), (k5, .int)] s := hK
  refine lv_aload_n hx hb dX10_add_79 rfl (lv_at hl 1 rfl) ?_
  refine lv_dup hx hb dX10_add_80 rfl ?_
  refine va_get (D := (dC, dI)) (ci := 10) (v := .int 1) (C := RX10) (T := TX10) (N := 9) hx hb hts (fun w h => mc (in_X10 w h)) hown hK hP 0 rfl rfl 7 (by decide) (hts _ (mc m_46)) (fun _ h9 => h9) rfl dX10_add_81 ?_
  refine lv_iconst (v := 1) hx hb dX10_add_84 (by decide) ?_
  refine lv_iadd hx hb dX10_add_85 ?_
  refine q_topi 2 (by decide) ?_
  refine va_put (D := (dC, dI)) (ci := 10) (v := .int 2) (ty := .int) (C := RX10) (T := TX10) (N := 9) hx hb hts (fun w h => mc (in_X10 w h)) tyX10 tyX10_ok nmX10 hown hK hP hD hS 0 rfl rfl 7 (by decide) (hts _ (mc m_46)) (fun _ h9 => h9) rfl (by decide +kernel) (by first | rfl | decide) (by first | rfl | decide) (Nat.le_of_ble_eq_true rfl) dX10_add_86 (fun H locs hP hD hS => ?_)
  have hP : va_P (dC, dI) classes [(q0, .inr (10, [.ref q1, .ref q2, .ref q3, .ref q4, .ref q5, .ref q6, .ref q7, .int 2, .int 0])), (q1, .inl (k0, 1600, .inl (upd (upd (fun _ => 0) 0 0) 1 1))), (q2, .inl (k1, 1600, .inl (upd (upd (fun _ => 0) 0 (-1)) 1 (-1)))), (q3, .inl (k2, 1600, .inl (upd (upd (fun _ => 0) 0 (-1)) 1 (-1)))), (q4, .inl (k3, 1600, .inl (upd (upd (fun _ => 0) 0 1) 1 1))), (q5, .inl (k4, 1600, .inl (upd (upd (fun _ => 0) 0 (-1)) 1 (-1)))), (q6, .inl (k5, 1600, .inl (upd (upd (fun _ => 0) 0 0) 1 0)))] H := hP
  have hD : va_D A [(q0, .inr (10, [.ref q1, .ref q2, .ref q3, .ref q4, .ref q5, .ref q6, .ref q7, .int 2, .int 0])), (q1, .inl (k0, 1600, .inl (upd (upd (fun _ => 0) 0 0) 1 1))), (q2, .inl (k1, 1600, .inl (upd (upd (fun _ => 0) 0 (-1)) 1 (-1)))), (q3, .inl (k2, 1600, .inl (upd (upd (fun _ => 0) 0 (-1)) 1 (-1)))), (q4, .inl (k3, 1600, .inl (upd (upd (fun _ => 0) 0 1) 1 1))), (q5, .inl (k4, 1600, .inl (upd (upd (fun _ => 0) 0 (-1)) 1 (-1)))), (q6, .inl (k5, 1600, .inl (upd (upd (fun _ => 0) 0 0) 1 0)))] := hD
  refine lv_iload hx hb dX10_add_89 (lv_at hl 0 rfl) ?_
  exact W.iret (v := 1) hx hb hr (fun t ht hW => ⟨⟨1, (), rfl, rfl, by rw [ht]; exact hP, va_K.moved hW.alike hK, hD⟩, hS.F ht⟩) hS.2.2 dX10_add_91
set_option maxHeartbeats 4000000 in
set_option maxRecDepth 100000 in
theorem c_X10_clear_0 (l : Launch) (dC : Nat → ClassId) (dI : Nat → Nat → Nat) (q0 : Nat) (q1 : Nat) (q2 : Nat) (q3 : Nat) (q4 : Nat) (q5 : Nat) (q6 : Nat) (q7 : Nat) (k0 : ClassId) (k1 : ClassId) (k2 : ClassId) (k3 : ClassId) (k4 : ClassId) (k5 : ClassId) (sz : Nat) : Met l yX10_clear (.code yX10_clear cX10_clear 1 none :: bigW) { frames := 2, cells := 0, slots := 0, locals := 47 } (va_Pc [.ref q0] (q_In dC dI [(q0, .inr (10, [.ref q1, .ref q2, .ref q3, .ref q4, .ref q5, .ref q6, .ref q7, .int 0, .int 0])), (q1, .inl (k0, 1600, .inl (fun _ => 0))), (q2, .inl (k1, 1600, .inl (fun _ => 0))), (q3, .inl (k2, 1600, .inl (fun _ => 0))), (q4, .inl (k3, 1600, .inl (fun _ => 0))), (q5, .inl (k4, 1600, .inl (fun _ => 0))), (q6, .inl (k5, 1600, .inl (fun _ => 0)))] [(k0, .int), (k1, .int), (k2, .int), (k3, .int), (k4, .int), (k5, .int)] sz)) (va_Qv (fun _ : Unit => True) (fun _ t => va_P (dC, dI) classes [(q0, .inr (10, [.ref q1, .ref q2, .ref q3, .ref q4, .ref q5, .ref q6, .ref q7, .int 2, .int 0])), (q1, .inl (k0, 1600, .inl (upd (upd (fun _ => 0) 0 0) 1 1))), (q2, .inl (k1, 1600, .inl (upd (upd (fun _ => 0) 0 (-1)) 1 (-1)))), (q3, .inl (k2, 1600, .inl (upd (upd (fun _ => 0) 0 (-1)) 1 (-1)))), (q4, .inl (k3, 1600, .inl (upd (upd (fun _ => 0) 0 1) 1 1))), (q5, .inl (k4, 1600, .inl (upd (upd (fun _ => 0) 0 (-1)) 1 (-1)))), (q6, .inl (k5, 1600, .inl (upd (upd (fun _ => 0) 0 0) 1 0)))] t.heap ∧ va_K (dC, dI) classes [(k0, .int), (k1, .int), (k2, .int), (k3, .int), (k4, .int), (k5, .int)] t ∧ va_D (va_A [(q0, .inr (10, [.ref q1, .ref q2, .ref q3, .ref q4, .ref q5, .ref q6, .ref q7, .int 0, .int 0])), (q1, .inl (k0, 1600, .inl (fun _ => 0))), (q2, .inl (k1, 1600, .inl (fun _ => 0))), (q3, .inl (k2, 1600, .inl (fun _ => 0))), (q4, .inl (k3, 1600, .inl (fun _ => 0))), (q5, .inl (k4, 1600, .inl (fun _ => 0))), (q6, .inl (k5, 1600, .inl (fun _ => 0)))] sz) [(q0, .inr (10, [.ref q1, .ref q2, .ref q3, .ref q4, .ref q5, .ref q6, .ref q7, .int 2, .int 0])), (q1, .inl (k0, 1600, .inl (upd (upd (fun _ => 0) 0 0) 1 1))), (q2, .inl (k1, 1600, .inl (upd (upd (fun _ => 0) 0 (-1)) 1 (-1)))), (q3, .inl (k2, 1600, .inl (upd (upd (fun _ => 0) 0 (-1)) 1 (-1)))), (q4, .inl (k3, 1600, .inl (upd (upd (fun _ => 0) 0 1) 1 1))), (q5, .inl (k4, 1600, .inl (upd (upd (fun _ => 0) 0 (-1)) 1 (-1)))), (q6, .inl (k5, 1600, .inl (upd (upd (fun _ => 0) 0 0) 1 0)))]) (va_A [(q0, .inr (10, [.ref q1, .ref q2, .ref q3, .ref q4, .ref q5, .ref q6, .ref q7, .int 0, .int 0])), (q1, .inl (k0, 1600, .inl (fun _ => 0))), (q2, .inl (k1, 1600, .inl (fun _ => 0))), (q3, .inl (k2, 1600, .inl (fun _ => 0))), (q4, .inl (k3, 1600, .inl (fun _ => 0))), (q5, .inl (k4, 1600, .inl (fun _ => 0))), (q6, .inl (k5, 1600, .inl (fun _ => 0)))] sz)) 0 0 (va_A [(q0, .inr (10, [.ref q1, .ref q2, .ref q3, .ref q4, .ref q5, .ref q6, .ref q7, .int 0, .int 0])), (q1, .inl (k0, 1600, .inl (fun _ => 0))), (q2, .inl (k1, 1600, .inl (fun _ => 0))), (q3, .inl (k2, 1600, .inl (fun _ => 0))), (q4, .inl (k3, 1600, .inl (fun _ => 0))), (q5, .inl (k4, 1600, .inl (fun _ => 0))), (q6, .inl (k5, 1600, .inl (fun _ => 0)))] sz) := by
  refine Met.ofW (cc := cX10_clear) (maxL := 1) (ret := none) (by decide) rfl ?_
  intro p e s m args below meth c s₁ B hml hv
  obtain ⟨rfl, hsz, hP, hK, hD0, hE⟩ := hv
  have hx := B.exec
  have hb := B.bytes
  have hr := B.returns
  have hts := atoms_spec (ws := .code yX10_clear cX10_clear 1 none :: bigW) B.pre
  have hown : s.vm.findClass RX10 = some m.cls := findClass_of_methodNamed B.named
  have hlocks := B.notSynchronized
  subst hsz
  have hD := hD0.self (sz := s.heap.size)
  generalize hAe : va_A [(q0, .inr (10, [.ref q1, .ref q2, .ref q3, .ref q4, .ref q5, .ref q6, .ref q7, .int 0, .int 0])), (q1, .inl (k0, 1600, .inl (fun _ => 0))), (q2, .inl (k1, 1600, .inl (fun _ => 0))), (q3, .inl (k2, 1600, .inl (fun _ => 0))), (q4, .inl (k3, 1600, .inl (fun _ => 0))), (q5, .inl (k4, 1600, .inl (fun _ => 0))), (q6, .inl (k5, 1600, .inl (fun _ => 0)))] s.heap.size = A at hD hE ⊢
  have hN : q_N s := hE.2.2.2.1
  have hA : ∀ q : Nat, s.heap.size ≤ q → A q := fun q h => by rw [← hAe]; exact Or.inr h
  have hS : va_S A s.heap s.heap [] := va_S.rf
  have hP : va_P (dC, dI) classes [(q0, .inr (10, [.ref q1, .ref q2, .ref q3, .ref q4, .ref q5, .ref q6, .ref q7, .int 0, .int 0])), (q1, .inl (k0, 1600, .inl (fun _ => 0))), (q2, .inl (k1, 1600, .inl (fun _ => 0))), (q3, .inl (k2, 1600, .inl (fun _ => 0))), (q4, .inl (k3, 1600, .inl (fun _ => 0))), (q5, .inl (k4, 1600, .inl (fun _ => 0))), (q6, .inl (k5, 1600, .inl (fun _ => 0)))] s.heap := hP
  have hl := lv_entry ([.ref q0]) (n := 1) (Nat.le_of_ble_eq_true rfl)
  rw [lg_entry_eq]
  generalize (lg_sl ([.ref q0]) ++ List.replicate (1 - (lg_sl ([.ref q0])).length) Slot.unset).toArray = ls at hl ⊢
  have hl : lv_has ls 1 [(0, .ref q0)] := hl
  refine lv_aload_n hx hb dX10_clear_0 rfl (lv_at hl 0 rfl) ?_
  refine lv_iconst (v := 0) hx hb dX10_clear_1 (by decide) ?_
  refine va_put (D := (dC, dI)) (ci := 10) (v := .int 0) (ty := .int) (C := RX10) (T := TX10) (N := 9) hx hb hts (fun w h => mc (in_X10 w h)) tyX10 tyX10_ok nmX10 hown hK hP hD hS 0 rfl rfl 7 (by decide) (hts _ (mc m_46)) (fun _ h9 => h9) rfl (by decide +kernel) (by first | rfl | decide) (by first | rfl | decide) (Nat.le_of_ble_eq_true rfl) dX10_clear_2 (fun H locs hP hD hS => ?_)
  have hP : va_P (dC, dI) classes [(q0, .inr (10, [.ref q1, .ref q2, .ref q3, .ref q4, .ref q5, .ref q6, .ref q7, .int 0, .int 0])), (q1, .inl (k0, 1600, .inl (fun _ => 0))), (q2, .inl (k1, 1600, .inl (fun _ => 0))), (q3, .inl (k2, 1600, .inl (fun _ => 0))), (q4, .inl (k3, 1600, .inl (fun _ => 0))), (q5, .inl (k4, 1600, .inl (fun _ => 0))), (q6, .inl (k5, 1600, .inl (fun _ => 0)))] H := hP
  have hD : va_D A [(q0, .inr (10, [.ref q1, .ref q2, .ref q3, .ref q4, .ref q5, .ref q6, .ref q7, .int 0, .int 0])), (q1, .inl (k0, 1600, .inl (fun _ => 0))), (q2, .inl (k1, 1600, .inl (fun _ => 0))), (q3, .inl (k2, 1600, .inl (fun _ => 0))), (q4, .inl (k3, 1600, .inl (fun _ => 0))), (q5, .inl (k4, 1600, .inl (fun _ => 0))), (q6, .inl (k5, 1600, .inl (fun _ => 0)))] := hD
  refine lv_aload_n hx hb dX10_clear_5 rfl (lv_at hl 0 rfl) ?_
  refine lv_iconst (v := 0) hx hb dX10_clear_6 (by decide) ?_
  refine va_put (D := (dC, dI)) (ci := 10) (v := .int 0) (ty := .int) (C := RX10) (T := TX10) (N := 9) hx hb hts (fun w h => mc (in_X10 w h)) tyX10 tyX10_ok nmX10 hown hK hP hD hS 0 rfl rfl 8 (by decide) (hts _ (mc m_47)) (fun _ h9 => h9) rfl (by decide +kernel) (by first | rfl | decide) (by first | rfl | decide) (Nat.le_of_ble_eq_true rfl) dX10_clear_7 (fun H locs hP hD hS => ?_)
  have hP : va_P (dC, dI) classes [(q0, .inr (10, [.ref q1, .ref q2, .ref q3, .ref q4, .ref q5, .ref q6, .ref q7, .int 0, .int 0])), (q1, .inl (k0, 1600, .inl (fun _ => 0))), (q2, .inl (k1, 1600, .inl (fun _ => 0))), (q3, .inl (k2, 1600, .inl (fun _ => 0))), (q4, .inl (k3, 1600, .inl (fun _ => 0))), (q5, .inl (k4, 1600, .inl (fun _ => 0))), (q6, .inl (k5, 1600, .inl (fun _ => 0)))] H := hP
  have hD : va_D A [(q0, .inr (10, [.ref q1, .ref q2, .ref q3, .ref q4, .ref q5, .ref q6, .ref q7, .int 0, .int 0])), (q1, .inl (k0, 1600, .inl (fun _ => 0))), (q2, .inl (k1, 1600, .inl (fun _ => 0))), (q3, .inl (k2, 1600, .inl (fun _ => 0))), (q4, .inl (k3, 1600, .inl (fun _ => 0))), (q5, .inl (k4, 1600, .inl (fun _ => 0))), (q6, .inl (k5, 1600, .inl (fun _ => 0)))] := hD
  refine lv_aload_n hx hb dX10_clear_10 rfl (lv_at hl 0 rfl) ?_
  refine lv_iconst (v := 0) hx hb dX10_clear_11 (by decide) ?_
  refine lv_iconst (v := (-1)) hx hb dX10_clear_12 (by decide) ?_
  refine lv_iconst (v := (-1)) hx hb dX10_clear_13 (by decide) ?_
  refine lv_iconst (v := 1) hx hb dX10_clear_14 (by decide) ?_
  have hPc := hP.sub (ws' := [(q0, .inr (10, [.ref q1, .ref q2, .ref q3, .ref q4, .ref q5, .ref q6, .ref q7, .int 0, .int 0])), (q1, .inl (k0, 1600, .inl (fun _ => 0))), (q2, .inl (k1, 1600, .inl (fun _ => 0))), (q3, .inl (k2, 1600, .inl (fun _ => 0))), (q4, .inl (k3, 1600, .inl (fun _ => 0))), (q5, .inl (k4, 1600, .inl (fun _ => 0))), (q6, .inl (k5, 1600, .inl (fun _ => 0)))]) [0, 1, 2, 3, 4, 5, 6] rfl
  have hDc := hD.sub (ws' := [(q0, .inr (10, [.ref q1, .ref q2, .ref q3, .ref q4, .ref q5, .ref q6, .ref q7, .int 0, .int 0])), (q1, .inl (k0, 1600, .inl (fun _ => 0))), (q2, .inl (k1, 1600, .inl (fun _ => 0))), (q3, .inl (k2, 1600, .inl (fun _ => 0))), (q4, .inl (k3, 1600, .inl (fun _ => 0))), (q5, .inl (k4, 1600, .inl (fun _ => 0))), (q6, .inl (k5, 1600, .inl (fun _ => 0)))]) [0, 1, 2, 3, 4, 5, 6] (by decide) rfl
  have hKc := hK.sub (tys' := [(k0, .int), (k1, .int), (k2, .int), (k3, .int), (k4, .int), (k5, .int)]) [0, 1, 2, 3, 4, 5] rfl
  have hFc := va_free (wc := [(q0, .inr (10, [.ref q1, .ref q2, .ref q3, .ref q4, .ref q5, .ref q6, .ref q7, .int 0, .int 0])), (q1, .inl (k0, 1600, .inl (fun _ => 0))), (q2, .inl (k1, 1600, .inl (fun _ => 0))), (q3, .inl (k2, 1600, .inl (fun _ => 0))), (q4, .inl (k3, 1600, .inl (fun _ => 0))), (q5, .inl (k4, 1600, .inl (fun _ => 0))), (q6, .inl (k5, 1600, .inl (fun _ => 0)))]) hD hS hA [0, 1, 2, 3, 4, 5, 6] rfl
  refine va_calli (va_runV (As := [.int 0, .int (-1), .int (-1), .int 1]) (rest := []) ⟨hx, hb, hml, hown, hts⟩ (c_X10_add_0 l dC dI q0 q1 q2 q3 q4 q5 q6 q7 k0 k1 k2 k3 k4 k5 H.size) (cwV 4 hts (gV m_280 m_281 m_282 m_37 m_279) rfl rfl rfl (by decide +kernel) ⟨Nat.le_of_ble_eq_true rfl, Nat.le_of_ble_eq_true rfl⟩) ⟨q_bl, va_recv hKc hPc (ci := 10) (q0 := 0) rfl rfl, q_pre hPc hKc hDc hE hS hFc⟩ rfl rfl hl.1 rfl (lv_room (Nat.le_of_ble_eq_true rfl)) dX10_clear_15 ⟨Nat.le_of_ble_eq_true rfl, Nat.le_of_ble_eq_true rfl⟩) hS (fun q _ h => hFc q h) hFc (fun r9 u t H1 locs ht hvm hw hB hz1 hk1 hS => ?_)
  obtain ⟨hP1, hK1, hD1⟩ := hB
  rw [ht] at hP1
  have hK1 := va_K.moved hvm.symm hK1
  obtain ⟨hP, hD⟩ := va_join (wr := []) (w1 := [(q0, .inr (10, [.ref q1, .ref q2, .ref q3, .ref q4, .ref q5, .ref q6, .ref q7, .int 1, .int 0])), (q1, .inl (k0, 1600, .inl (upd (fun _ => 0) 0 0))), (q2, .inl (k1, 1600, .inl (upd (fun _ => 0) 0 (-1)))), (q3, .inl (k2, 1600, .inl (upd (fun _ => 0) 0 (-1)))), (q4, .inl (k3, 1600, .inl (upd (fun _ => 0) 0 1))), (q5, .inl (k4, 1600, .inl (upd (fun _ => 0) 0 (-1)))), (q6, .inl (k5, 1600, .inl (upd (fun _ => 0) 0 0)))]) hP hD [0, 1, 2, 3, 4, 5, 6] [] rfl rfl (by decide) (by decide) hk1 hFc hP1 hD1
  have hK := (hK.sub (tys' := []) [] rfl).app hK1
  generalize H1 = H at hP hS ⊢
  have hP : va_P (dC, dI) classes [(q0, .inr (10, [.ref q1, .ref q2, .ref q3, .ref q4, .ref q5, .ref q6, .ref q7, .int 1, .int 0])), (q1, .inl (k0, 1600, .inl (upd (fun _ => 0) 0 0))), (q2, .inl (k1, 1600, .inl (upd (fun _ => 0) 0 (-1)))), (q3, .inl (k2, 1600, .inl (upd (fun _ => 0) 0 (-1)))), (q4, .inl (k3, 1600, .inl (upd (fun _ => 0) 0 1))), (q5, .inl (k4, 1600, .inl (upd (fun _ => 0) 0 (-1)))), (q6, .inl (k5, 1600, .inl (upd (fun _ => 0) 0 0)))] H := hP
  have hD : va_D A [(q0, .inr (10, [.ref q1, .ref q2, .ref q3, .ref q4, .ref q5, .ref q6, .ref q7, .int 1, .int 0])), (q1, .inl (k0, 1600, .inl (upd (fun _ => 0) 0 0))), (q2, .inl (k1, 1600, .inl (upd (fun _ => 0) 0 (-1)))), (q3, .inl (k2, 1600, .inl (upd (fun _ => 0) 0 (-1)))), (q4, .inl (k3, 1600, .inl (upd (fun _ => 0) 0 1))), (q5, .inl (k4, 1600, .inl (upd (fun _ => 0) 0 (-1)))), (q6, .inl (k5, 1600, .inl (upd (fun _ => 0) 0 0)))] := hD
  have hK : va_K (dC, dI) classes [(k0, .int), (k1, .int), (k2, .int), (k3, .int), (k4, .int), (k5, .int)] s := hK
  rw [hw]
  refine lv_pop hx hb dX10_clear_18 rfl ?_
  refine lv_aload_n hx hb dX10_clear_19 rfl (lv_at hl 0 rfl) ?_
  refine lv_iconst (v := 1) hx hb dX10_clear_20 (by decide) ?_
  refine lv_iconst (v := (-1)) hx hb dX10_clear_21 (by decide) ?_
  refine lv_iconst (v := (-1)) hx hb dX10_clear_22 (by decide) ?_
  refine lv_iconst (v := 1) hx hb dX10_clear_23 (by decide) ?_
  have hPc := hP.sub (ws' := [(q0, .inr (10, [.ref q1, .ref q2, .ref q3, .ref q4, .ref q5, .ref q6, .ref q7, .int 1, .int 0])), (q1, .inl (k0, 1600, .inl (upd (fun _ => 0) 0 0))), (q2, .inl (k1, 1600, .inl (upd (fun _ => 0) 0 (-1)))), (q3, .inl (k2, 1600, .inl (upd (fun _ => 0) 0 (-1)))), (q4, .inl (k3, 1600, .inl (upd (fun _ => 0) 0 1))), (q5, .inl (k4, 1600, .inl (upd (fun _ => 0) 0 (-1)))), (q6, .inl (k5, 1600, .inl (upd (fun _ => 0) 0 0)))]) [0, 1, 2, 3, 4, 5, 6] rfl
  have hDc := hD.sub (ws' := [(q0, .inr (10, [.ref q1, .ref q2, .ref q3, .ref q4, .ref q5, .ref q6, .ref q7, .int 1, .int 0])), (q1, .inl (k0, 1600, .inl (upd (fun _ => 0) 0 0))), (q2, .inl (k1, 1600, .inl (upd (fun _ => 0) 0 (-1)))), (q3, .inl (k2, 1600, .inl (upd (fun _ => 0) 0 (-1)))), (q4, .inl (k3, 1600, .inl (upd (fun _ => 0) 0 1))), (q5, .inl (k4, 1600, .inl (upd (fun _ => 0) 0 (-1)))), (q6, .inl (k5, 1600, .inl (upd (fun _ => 0) 0 0)))]) [0, 1, 2, 3, 4, 5, 6] (by decide) rfl
  have hKc := hK.sub (tys' := [(k0, .int), (k1, .int), (k2, .int), (k3, .int), (k4, .int), (k5, .int)]) [0, 1, 2, 3, 4, 5] rfl
  have hFc := va_free (wc := [(q0, .inr (10, [.ref q1, .ref q2, .ref q3, .ref q4, .ref q5, .ref q6, .ref q7, .int 1, .int 0])), (q1, .inl (k0, 1600, .inl (upd (fun _ => 0) 0 0))), (q2, .inl (k1, 1600, .inl (upd (fun _ => 0) 0 (-1)))), (q3, .inl (k2, 1600, .inl (upd (fun _ => 0) 0 (-1)))), (q4, .inl (k3, 1600, .inl (upd (fun _ => 0) 0 1))), (q5, .inl (k4, 1600, .inl (upd (fun _ => 0) 0 (-1)))), (q6, .inl (k5, 1600, .inl (upd (fun _ => 0) 0 0)))]) hD hS hA [0, 1, 2, 3, 4, 5, 6] rfl
  refine va_calli (va_runV (As := [.int 1, .int (-1), .int (-1), .int 1]) (rest := []) ⟨hx, hb, hml, hown, hts⟩ (c_X10_add_1 l dC dI q0 q1 q2 q3 q4 q5 q6 q7 k0 k1 k2 k3 k4 k5 H.size) (cwV 4 hts (gV m_280 m_281 m_282 m_37 m_279) rfl rfl rfl (by decide +kernel) ⟨Nat.le_of_ble_eq_true rfl, Nat.le_of_ble_eq_true rfl⟩) ⟨q_bl, va_recv hKc hPc (ci := 10) (q0 := 0) rfl rfl, q_pre hPc hKc hDc hE hS hFc⟩ rfl rfl hl.1 rfl (lv_room (Nat.le_of_ble_eq_true rfl)) dX10_clear_24 ⟨Nat.le_of_ble_eq_true rfl, Nat.le_of_ble_eq_true rfl⟩) hS (fun q _ h => hFc q h) hFc (fun r9 u t H1 locs ht hvm hw hB hz1 hk1 hS => ?_)
  obtain ⟨hP1, hK1, hD1⟩ := hB
  rw [ht] at hP1
  have hK1 := va_K.moved hvm.symm hK1
  obtain ⟨hP, hD⟩ := va_join (wr := []) (w1 := [(q0, .inr (10, [.ref q1, .ref q2, .ref q3, .ref q4, .ref q5, .ref q6, .ref q7, .int 2, .int 0])), (q1, .inl (k0, 1600, .inl (upd (upd (fun _ => 0) 0 0) 1 1))), (q2, .inl (k1, 1600, .inl (upd (upd (fun _ => 0) 0 (-1)) 1 (-1)))), (q3, .inl (k2, 1600, .inl (upd (upd (fun _ => 0) 0 (-1)) 1 (-1)))), (q4, .inl (k3, 1600, .inl (upd (upd (fun _ => 0) 0 1) 1 1))), (q5, .inl (k4, 1600, .inl (upd (upd (fun _ => 0) 0 (-1)) 1 (-1)))), (q6, .inl (k5, 1600, .inl (upd (upd (fun _ => 0) 0 0) 1 0)))]) hP hD [0, 1, 2, 3, 4, 5, 6] [] rfl rfl (by decide) (by decide) hk1 hFc hP1 hD1
  have hK := (hK.sub (tys' := []) [] rfl).app hK1
  generalize H1 = H at hP hS ⊢
  have hP : va_P (dC, dI) classes [(q0, .inr (10, [.ref q1, .ref q2, .ref q3, .ref q4, .ref q5, .ref q6, .ref q7, .int 2, .int 0])), (q1, .inl (k0, 1600, .inl (upd (upd (fun _ => 0) 0 0) 1 1))), (q2, .inl (k1, 1600, .inl (upd (upd (fun _ => 0) 0 (-1)) 1 (-1)))), (q3, .inl (k2, 1600, .inl (upd (upd (fun _ => 0) 0 (-1)) 1 (-1)))), (q4, .inl (k3, 1600, .inl (upd (upd (fun _ => 0) 0 1) 1 1))), (q5, .inl (k4, 1600, .inl (upd (upd (fun _ => 0) 0 (-1)) 1 (-1)))), (q6, .inl (k5, 1600, .inl (upd (upd (fun _ => 0) 0 0) 1 0)))] H := hP
  have hD : va_D A [(q0, .inr (10, [.ref q1, .ref q2, .ref q3, .ref q4, .ref q5, .ref q6, .ref q7, .int 2, .int 0])), (q1, .inl (k0, 1600, .inl (upd (upd (fun _ => 0) 0 0) 1 1))), (q2, .inl (k1, 1600, .inl (upd (upd (fun _ => 0) 0 (-1)) 1 (-1)))), (q3, .inl (k2, 1600, .inl (upd (upd (fun _ => 0) 0 (-1)) 1 (-1)))), (q4, .inl (k3, 1600, .inl (upd (upd (fun _ => 0) 0 1) 1 1))), (q5, .inl (k4, 1600, .inl (upd (upd (fun _ => 0) 0 (-1)) 1 (-1)))), (q6, .inl (k5, 1600, .inl (upd (upd (fun _ => 0) 0 0) 1 0)))] := hD
  have hK : va_K (dC, dI) classes [(k0, .int), (k1, .int), (k2, .int), (k3, .int), (k4, .int), (k5, .int)] s := hK
  rw [hw]
  refine lv_pop hx hb dX10_clear_27 rfl ?_
  exact W.vret hx hb hr (fun t ht hW => ⟨⟨(), rfl, trivial, by rw [ht]; exact hP, va_K.moved hW.alike hK, hD⟩, hS.F ht⟩) hS.2.2 dX10_clear_28
set_option maxHeartbeats 4000000 in
set_option maxRecDepth 100000 in
theorem c_X0_clear_0 (l : Launch) (dC : Nat → ClassId) (dI : Nat → Nat → Nat) (q0 : Nat) (q1 : Nat) (q2 : Nat) (q3 : Nat) (q4 : Nat) (q5 : Nat) (q6 : Nat) (q7 : Nat) (q8 : Nat) (q9 : Nat) (q10 : Nat) (q11 : Nat) (q12 : Nat) (q13 : Nat) (q14 : Nat) (q15 : Nat) (q16 : Nat) (q17 : Nat) (sz : Nat) : Met l yX0_clear (.code yX0_clear cX0_clear 1 none :: bigW) { frames := 0, cells := 0, slots := 0, locals := 0 } (va_Pc [.ref q0] (q_In dC dI [(q0, .inr (0, [.ref q1, .ref q2, .ref q3, .ref q4, .ref q5, .int 0, .ref q6, .ref q7, .ref q8, .ref q9, .ref q10, .ref q11, .ref q12, .ref q13, .int 0, .ref q14, .ref q15, .ref q16, .ref q17]))] [] sz)) (va_Qv (fun _ : Unit => True) (fun _ t => va_P (dC, dI) classes [(q0, .inr (0, [.ref q1, .ref q2, .ref q3, .ref q4, .ref q5, .int 0, .ref q6, .ref q7, .ref q8, .ref q9, .ref q10, .ref q11, .ref q12, .ref q13, .int 0, .ref q14, .ref q15, .ref q16, .ref q17]))] t.heap ∧ va_K (dC, dI) classes [] t ∧ va_D (va_A [(q0, .inr (0, [.ref q1, .ref q2, .ref q3, .ref q4, .ref q5, .int 0, .ref q6, .ref q7, .ref q8, .ref q9, .ref q10, .ref q11, .ref q12, .ref q13, .int 0, .ref q14, .ref q15, .ref q16, .ref q17]))] sz) [(q0, .inr (0, [.ref q1, .ref q2, .ref q3, .ref q4, .ref q5, .int 0, .ref q6, .ref q7, .ref q8, .ref q9, .ref q10, .ref q11, .ref q12, .ref q13, .int 0, .ref q14, .ref q15, .ref q16, .ref q17]))]) (va_A [(q0, .inr (0, [.ref q1, .ref q2, .ref q3, .ref q4, .ref q5, .int 0, .ref q6, .ref q7, .ref q8, .ref q9, .ref q10, .ref q11, .ref q12, .ref q13, .int 0, .ref q14, .ref q15, .ref q16, .ref q17]))] sz)) 0 0 (va_A [(q0, .inr (0, [.ref q1, .ref q2, .ref q3, .ref q4, .ref q5, .int 0, .ref q6, .ref q7, .ref q8, .ref q9, .ref q10, .ref q11, .ref q12, .ref q13, .int 0, .ref q14, .ref q15, .ref q16, .ref q17]))] sz) := by
  refine Met.ofW (cc := cX0_clear) (maxL := 1) (ret := none) (by decide) rfl ?_
  intro p e s m args below meth c s₁ B hml hv
  obtain ⟨rfl, hsz, hP, hK, hD0, hE⟩ := hv
  have hx := B.exec
  have hb := B.bytes
  have hr := B.returns
  have hts := atoms_spec (ws := .code yX0_clear cX0_clear 1 none :: bigW) B.pre
  have hown : s.vm.findClass RX0 = some m.cls := findClass_of_methodNamed B.named
  have hlocks := B.notSynchronized
  subst hsz
  have hD := hD0.self (sz := s.heap.size)
  generalize hAe : va_A [(q0, .inr (0, [.ref q1, .ref q2, .ref q3, .ref q4, .ref q5, .int 0, .ref q6, .ref q7, .ref q8, .ref q9, .ref q10, .ref q11, .ref q12, .ref q13, .int 0, .ref q14, .ref q15, .ref q16, .ref q17]))] s.heap.size = A at hD hE ⊢
  have hN : q_N s := hE.2.2.2.1
  have hA : ∀ q : Nat, s.heap.size ≤ q → A q := fun q h => by rw [← hAe]; exact Or.inr h
  have hS : va_S A s.heap s.heap [] := va_S.rf
  have hP : va_P (dC, dI) classes [(q0, .inr (0, [.ref q1, .ref q2, .ref q3, .ref q4, .ref q5, .int 0, .ref q6, .ref q7, .ref q8, .ref q9, .ref q10, .ref q11, .ref q12, .ref q13, .int 0, .ref q14, .ref q15, .ref q16, .ref q17]))] s.heap := hP
  have hl := lv_entry ([.ref q0]) (n := 1) (Nat.le_of_ble_eq_true rfl)
  rw [lg_entry_eq]
  generalize (lg_sl ([.ref q0]) ++ List.replicate (1 - (lg_sl ([.ref q0])).length) Slot.unset).toArray = ls at hl ⊢
  have hl : lv_has ls 1 [(0, .ref q0)] := hl
  refine lv_aload_n hx hb dX0_clear_0 rfl (lv_at hl 0 rfl) ?_
  refine lv_iconst (v := 0) hx hb dX0_clear_1 (by decide) ?_
  refine va_put (D := (dC, dI)) (ci := 0) (v := .int 0) (ty := .int) (C := RX0) (T := TX0) (N := 19) hx hb hts (fun w h => mc (in_X0 w h)) tyX0 tyX0_ok nmX0 hown hK hP hD hS 0 rfl rfl 5 (by decide) (hts _ (mc m_61)) (fun _ h9 => h9) rfl (by decide +kernel) (by first | rfl | decide) (by first | rfl | decide) (Nat.le_of_ble_eq_true rfl) dX0_clear_2 (fun H locs hP hD hS => ?_)
  have hP : va_P (dC, dI) classes [(q0, .inr (0, [.ref q1, .ref q2, .ref q3, .ref q4, .ref q5, .int 0, .ref q6, .ref q7, .ref q8, .ref q9, .ref q10, .ref q11, .ref q12, .ref q13, .int 0, .ref q14, .ref q15, .ref q16, .ref q17]))] H := hP
  have hD : va_D A [(q0, .inr (0, [.ref q1, .ref q2, .ref q3, .ref q4, .ref q5, .int 0, .ref q6, .ref q7, .ref q8, .ref q9, .ref q10, .ref q11, .ref q12, .ref q13, .int 0, .ref q14, .ref q15, .ref q16, .ref q17]))] := hD
  refine lv_aload_n hx hb dX0_clear_5 rfl (lv_at hl 0 rfl) ?_
  refine lv_iconst (v := 0) hx hb dX0_clear_6 (by decide) ?_
  refine va_put (D := (dC, dI)) (ci := 0) (v := .int 0) (ty := .int) (C := RX0) (T := TX0) (N := 19) hx hb hts (fun w h => mc (in_X0 w h)) tyX0 tyX0_ok nmX0 hown hK hP hD hS 0 rfl rfl 14 (by decide) (hts _ (mc m_70)) (fun _ h9 => h9) rfl (by decide +kernel) (by first | rfl | decide) (by first | rfl | decide) (Nat.le_of_ble_eq_true rfl) dX0_clear_7 (fun H locs hP hD hS => ?_)
  have hP : va_P (dC, dI) classes [(q0, .inr (0, [.ref q1, .ref q2, .ref q3, .ref q4, .ref q5, .int 0, .ref q6, .ref q7, .ref q8, .ref q9, .ref q10, .ref q11, .ref q12, .ref q13, .int 0, .ref q14, .ref q15, .ref q16, .ref q17]))] H := hP
  have hD : va_D A [(q0, .inr (0, [.ref q1, .ref q2, .ref q3, .ref q4, .ref q5, .int 0, .ref q6, .ref q7, .ref q8, .ref q9, .ref q10, .ref q11, .ref q12, .ref q13, .int 0, .ref q14, .ref q15, .ref q16, .ref q17]))] := hD
  exact W.vret hx hb hr (fun t ht hW => ⟨⟨(), rfl, trivial, by rw [ht]; exact hP, va_K.moved hW.alike hK, hD⟩, hS.F ht⟩) hS.2.2 dX0_clear_10
set_option maxHeartbeats 4000000 in
set_option maxRecDepth 100000 in
theorem c_X7_open_0 (l : Launch) (dC : Nat → ClassId) (dI : Nat → Nat → Nat) (q0 : Nat) (q1 : Nat) (q2 : Nat) (q3 : Nat) (q4 : Nat) (q5 : Nat) (q6 : Nat) (q7 : Nat) (q8 : Nat) (q9 : Nat) (q10 : Nat) (q11 : Nat) (q12 : Nat) (k0 : ClassId) (k1 : ClassId) (q13 : Nat) (q14 : Nat) (q15 : Nat) (q16 : Nat) (q17 : Nat) (q18 : Nat) (q19 : Nat) (k2 : ClassId) (k3 : ClassId) (k4 : ClassId) (k5 : ClassId) (k6 : ClassId) (k7 : ClassId) (q20 : Nat) (q21 : Nat) (q22 : Nat) (q23 : Nat) (q24 : Nat) (q25 : Nat) (q26 : Nat) (q27 : Nat) (q28 : Nat) (q29 : Nat) (q30 : Nat) (q31 : Nat) (q32 : Nat) (q33 : Nat) (q34 : Nat) (q35 : Nat) (q36 : Nat) (sz : Nat) : Met l yX7_open (.code yX7_open cX7_open 3 none :: bigW) { frames := 3, cells := 0, slots := 0, locals := 67 } (va_Pc [.ref q0, .ref q1, .int 0] (q_In dC dI [(q0, .inr (7, [.ref q2, .int 0, .ref q3, .ref q4, .ref q5, .ref q6, .ref q7, .ref q8, .ref q9, .ref q10, .int 0, .int (-1), .int 0, .int (-1), .ref q11, .ref q12])), (q1, .inl (k0, 3000, .inl (fun _ => 0))), (q2, .inl (k1, 3000, .inl (fun _ => 0))), (q11, .inr (10, [.ref q13, .ref q14, .ref q15, .ref q16, .ref q17, .ref q18, .ref q19, .int 0, .int 0])), (q13, .inl (k2, 1600, .inl (fun _ => 0))), (q14, .inl (k3, 1600, .inl (fun _ => 0))), (q15, .inl (k4, 1600, .inl (fun _ => 0))), (q16, .inl (k5, 1600, .inl (fun _ => 0))), (q17, .inl (k6, 1600, .inl (fun _ => 0))), (q18, .inl (k7, 1600, .inl (fun _ => 0))), (q12, .inr (0, [.ref q20, .ref q21, .ref q22, .ref q23, .ref q24, .int 0, .ref q25, .ref q26, .ref q27, .ref q28, .ref q29, .ref q30, .ref q31, .ref q32, .int 0, .ref q33, .ref q34, .ref q35, .ref q36]))] [(k0, .byte), (k1, .byte), (k2, .int), (k3, .int), (k4, .int), (k5, .int), (k6, .int), (k7, .int)] sz)) (va_Qv (fun _ : Unit => True) (fun _ t => ∃ (f101 : Nat → Int32), va_P (dC, dI) classes [(q0, .inr (7, [.ref q2, .int 0, .ref q3, .ref q4, .ref q5, .ref q6, .ref q7, .ref q8, .ref q9, .ref q10, .int 0, .int (-1), .int 0, .int (-1), .ref q11, .ref q12])), (q1, .inl (k0, 3000, .inl (fun _ => 0))), (q2, .inl (k1, 3000, .inl f101)), (q11, .inr (10, [.ref q13, .ref q14, .ref q15, .ref q16, .ref q17, .ref q18, .ref q19, .int 2, .int 0])), (q13, .inl (k2, 1600, .inl (upd (upd (fun _ => 0) 0 0) 1 1))), (q14, .inl (k3, 1600, .inl (upd (upd (fun _ => 0) 0 (-1)) 1 (-1)))), (q15, .inl (k4, 1600, .inl (upd (upd (fun _ => 0) 0 (-1)) 1 (-1)))), (q16, .inl (k5, 1600, .inl (upd (upd (fun _ => 0) 0 1) 1 1))), (q17, .inl (k6, 1600, .inl (upd (upd (fun _ => 0) 0 (-1)) 1 (-1)))), (q18, .inl (k7, 1600, .inl (upd (upd (fun _ => 0) 0 0) 1 0))), (q12, .inr (0, [.ref q20, .ref q21, .ref q22, .ref q23, .ref q24, .int 0, .ref q25, .ref q26, .ref q27, .ref q28, .ref q29, .ref q30, .ref q31, .ref q32, .int 0, .ref q33, .ref q34, .ref q35, .ref q36]))] t.heap ∧ va_K (dC, dI) classes [(k0, .byte), (k1, .byte), (k2, .int), (k3, .int), (k4, .int), (k5, .int), (k6, .int), (k7, .int)] t ∧ va_D (va_A [(q0, .inr (7, [.ref q2, .int 0, .ref q3, .ref q4, .ref q5, .ref q6, .ref q7, .ref q8, .ref q9, .ref q10, .int 0, .int (-1), .int 0, .int (-1), .ref q11, .ref q12])), (q1, .inl (k0, 3000, .inl (fun _ => 0))), (q2, .inl (k1, 3000, .inl (fun _ => 0))), (q11, .inr (10, [.ref q13, .ref q14, .ref q15, .ref q16, .ref q17, .ref q18, .ref q19, .int 0, .int 0])), (q13, .inl (k2, 1600, .inl (fun _ => 0))), (q14, .inl (k3, 1600, .inl (fun _ => 0))), (q15, .inl (k4, 1600, .inl (fun _ => 0))), (q16, .inl (k5, 1600, .inl (fun _ => 0))), (q17, .inl (k6, 1600, .inl (fun _ => 0))), (q18, .inl (k7, 1600, .inl (fun _ => 0))), (q12, .inr (0, [.ref q20, .ref q21, .ref q22, .ref q23, .ref q24, .int 0, .ref q25, .ref q26, .ref q27, .ref q28, .ref q29, .ref q30, .ref q31, .ref q32, .int 0, .ref q33, .ref q34, .ref q35, .ref q36]))] sz) [(q0, .inr (7, [.ref q2, .int 0, .ref q3, .ref q4, .ref q5, .ref q6, .ref q7, .ref q8, .ref q9, .ref q10, .int 0, .int (-1), .int 0, .int (-1), .ref q11, .ref q12])), (q1, .inl (k0, 3000, .inl (fun _ => 0))), (q2, .inl (k1, 3000, .inl f101)), (q11, .inr (10, [.ref q13, .ref q14, .ref q15, .ref q16, .ref q17, .ref q18, .ref q19, .int 2, .int 0])), (q13, .inl (k2, 1600, .inl (upd (upd (fun _ => 0) 0 0) 1 1))), (q14, .inl (k3, 1600, .inl (upd (upd (fun _ => 0) 0 (-1)) 1 (-1)))), (q15, .inl (k4, 1600, .inl (upd (upd (fun _ => 0) 0 (-1)) 1 (-1)))), (q16, .inl (k5, 1600, .inl (upd (upd (fun _ => 0) 0 1) 1 1))), (q17, .inl (k6, 1600, .inl (upd (upd (fun _ => 0) 0 (-1)) 1 (-1)))), (q18, .inl (k7, 1600, .inl (upd (upd (fun _ => 0) 0 0) 1 0))), (q12, .inr (0, [.ref q20, .ref q21, .ref q22, .ref q23, .ref q24, .int 0, .ref q25, .ref q26, .ref q27, .ref q28, .ref q29, .ref q30, .ref q31, .ref q32, .int 0, .ref q33, .ref q34, .ref q35, .ref q36]))]) (va_A [(q0, .inr (7, [.ref q2, .int 0, .ref q3, .ref q4, .ref q5, .ref q6, .ref q7, .ref q8, .ref q9, .ref q10, .int 0, .int (-1), .int 0, .int (-1), .ref q11, .ref q12])), (q1, .inl (k0, 3000, .inl (fun _ => 0))), (q2, .inl (k1, 3000, .inl (fun _ => 0))), (q11, .inr (10, [.ref q13, .ref q14, .ref q15, .ref q16, .ref q17, .ref q18, .ref q19, .int 0, .int 0])), (q13, .inl (k2, 1600, .inl (fun _ => 0))), (q14, .inl (k3, 1600, .inl (fun _ => 0))), (q15, .inl (k4, 1600, .inl (fun _ => 0))), (q16, .inl (k5, 1600, .inl (fun _ => 0))), (q17, .inl (k6, 1600, .inl (fun _ => 0))), (q18, .inl (k7, 1600, .inl (fun _ => 0))), (q12, .inr (0, [.ref q20, .ref q21, .ref q22, .ref q23, .ref q24, .int 0, .ref q25, .ref q26, .ref q27, .ref q28, .ref q29, .ref q30, .ref q31, .ref q32, .int 0, .ref q33, .ref q34, .ref q35, .ref q36]))] sz)) 0 0 (va_A [(q0, .inr (7, [.ref q2, .int 0, .ref q3, .ref q4, .ref q5, .ref q6, .ref q7, .ref q8, .ref q9, .ref q10, .int 0, .int (-1), .int 0, .int (-1), .ref q11, .ref q12])), (q1, .inl (k0, 3000, .inl (fun _ => 0))), (q2, .inl (k1, 3000, .inl (fun _ => 0))), (q11, .inr (10, [.ref q13, .ref q14, .ref q15, .ref q16, .ref q17, .ref q18, .ref q19, .int 0, .int 0])), (q13, .inl (k2, 1600, .inl (fun _ => 0))), (q14, .inl (k3, 1600, .inl (fun _ => 0))), (q15, .inl (k4, 1600, .inl (fun _ => 0))), (q16, .inl (k5, 1600, .inl (fun _ => 0))), (q17, .inl (k6, 1600, .inl (fun _ => 0))), (q18, .inl (k7, 1600, .inl (fun _ => 0))), (q12, .inr (0, [.ref q20, .ref q21, .ref q22, .ref q23, .ref q24, .int 0, .ref q25, .ref q26, .ref q27, .ref q28, .ref q29, .ref q30, .ref q31, .ref q32, .int 0, .ref q33, .ref q34, .ref q35, .ref q36]))] sz) := by
  refine Met.ofW (cc := cX7_open) (maxL := 3) (ret := none) (by decide) rfl ?_
  intro p e s m args below meth c s₁ B hml hv
  obtain ⟨rfl, hsz, hP, hK, hD0, hE⟩ := hv
  have hx := B.exec
  have hb := B.bytes
  have hr := B.returns
  have hts := atoms_spec (ws := .code yX7_open cX7_open 3 none :: bigW) B.pre
  have hown : s.vm.findClass RX7 = some m.cls := findClass_of_methodNamed B.named
  have hlocks := B.notSynchronized
  subst hsz
  have hD := hD0.self (sz := s.heap.size)
  generalize hAe : va_A [(q0, .inr (7, [.ref q2, .int 0, .ref q3, .ref q4, .ref q5, .ref q6, .ref q7, .ref q8, .ref q9, .ref q10, .int 0, .int (-1), .int 0, .int (-1), .ref q11, .ref q12])), (q1, .inl (k0, 3000, .inl (fun _ => 0))), (q2, .inl (k1, 3000, .inl (fun _ => 0))), (q11, .inr (10, [.ref q13, .ref q14, .ref q15, .ref q16, .ref q17, .ref q18, .ref q19, .int 0, .int 0])), (q13, .inl (k2, 1600, .inl (fun _ => 0))), (q14, .inl (k3, 1600, .inl (fun _ => 0))), (q15, .inl (k4, 1600, .inl (fun _ => 0))), (q16, .inl (k5, 1600, .inl (fun _ => 0))), (q17, .inl (k6, 1600, .inl (fun _ => 0))), (q18, .inl (k7, 1600, .inl (fun _ => 0))), (q12, .inr (0, [.ref q20, .ref q21, .ref q22, .ref q23, .ref q24, .int 0, .ref q25, .ref q26, .ref q27, .ref q28, .ref q29, .ref q30, .ref q31, .ref q32, .int 0, .ref q33, .ref q34, .ref q35, .ref q36]))] s.heap.size = A at hD hE ⊢
  have hN : q_N s := hE.2.2.2.1
  have hA : ∀ q : Nat, s.heap.size ≤ q → A q := fun q h => by rw [← hAe]; exact Or.inr h
  have hS : va_S A s.heap s.heap [] := va_S.rf
  have hP : va_P (dC, dI) classes [(q0, .inr (7, [.ref q2, .int 0, .ref q3, .ref q4, .ref q5, .ref q6, .ref q7, .ref q8, .ref q9, .ref q10, .int 0, .int (-1), .int 0, .int (-1), .ref q11, .ref q12])), (q1, .inl (k0, 3000, .inl (fun _ => 0))), (q2, .inl (k1, 3000, .inl (fun _ => 0))), (q11, .inr (10, [.ref q13, .ref q14, .ref q15, .ref q16, .ref q17, .ref q18, .ref q19, .int 0, .int 0])), (q13, .inl (k2, 1600, .inl (fun _ => 0))), (q14, .inl (k3, 1600, .inl (fun _ => 0))), (q15, .inl (k4, 1600, .inl (fun _ => 0))), (q16, .inl (k5, 1600, .inl (fun _ => 0))), (q17, .inl (k6, 1600, .inl (fun _ => 0))), (q18, .inl (k7, 1600, .inl (fun _ => 0))), (q12, .inr (0, [.ref q20, .ref q21, .ref q22, .ref q23, .ref q24, .int 0, .ref q25, .ref q26, .ref q27, .ref q28, .ref q29, .ref q30, .ref q31, .ref q32, .int 0, .ref q33, .ref q34, .ref q35, .ref q36]))] s.heap := hP
  have hl := lv_entry ([.ref q0, .ref q1, .int 0]) (n := 3) (Nat.le_of_ble_eq_true rfl)
  rw [lg_entry_eq]
  generalize (lg_sl ([.ref q0, .ref q1, .int 0]) ++ List.replicate (3 - (lg_sl ([.ref q0, .ref q1, .int 0])).length) Slot.unset).toArray = ls at hl ⊢
  have hl : lv_has ls 3 [(0, .ref q0), (1, .ref q1), (2, .int 0)] := hl
  refine lv_aload_n hx hb dX7_open_0 rfl (lv_at hl 0 rfl) ?_
  refine lv_iconst (v := 0) hx hb dX7_open_1 (by decide) ?_
  refine lv_iload_n hx hb dX7_open_2 rfl (lv_at hl 2 rfl) ?_
  refine lv_aload_n hx hb dX7_open_3 rfl (lv_at hl 1 rfl) ?_
  refine va_alen (v := 3000) hx hb hK hP 1 0 rfl rfl (by first | rfl | decide) dX7_open_4 ?_
  refine lv_aload_n hx hb dX7_open_5 rfl (lv_at hl 0 rfl) ?_
  refine va_get (D := (dC, dI)) (ci := 7) (v := .ref q2) (C := RX7) (T := TX7) (N := 16) hx hb hts (fun w h => mc (in_X7 w h)) hown hK hP 0 rfl rfl 0 (by decide) (hts _ (mc m_20)) (fun _ h9 => h9) rfl dX7_open_6 ?_
  refine va_alen (v := 3000) hx hb hK hP 2 1 rfl rfl (by first | rfl | decide) dX7_open_9 ?_
  refine va_mmin hx hb (by rw [hml]; exact hl.1.symm) hown (hts _ (mc m_266)) (hts _ (mc m_267)) (hts _ (mc m_268)) (hts _ (mc m_269)) (Nat.le_of_ble_eq_true rfl) (Nat.le_of_ble_eq_true rfl) (Nat.le_of_ble_eq_true rfl) (Nat.le_of_ble_eq_true rfl) dX7_open_10 ?_
  refine q_topi 3000 (by decide) ?_
  refine va_mmin hx hb (by rw [hml]; exact hl.1.symm) hown (hts _ (mc m_266)) (hts _ (mc m_267)) (hts _ (mc m_268)) (hts _ (mc m_269)) (Nat.le_of_ble_eq_true rfl) (Nat.le_of_ble_eq_true rfl) (Nat.le_of_ble_eq_true rfl) (Nat.le_of_ble_eq_true rfl) dX7_open_13 ?_
  refine q_topi 0 (by decide) ?_
  refine va_mmax hx hb (by rw [hml]; exact hl.1.symm) hown (hts _ (mc m_270)) (hts _ (mc m_271)) (hts _ (mc m_268)) (hts _ (mc m_272)) (Nat.le_of_ble_eq_true rfl) (Nat.le_of_ble_eq_true rfl) (Nat.le_of_ble_eq_true rfl) (Nat.le_of_ble_eq_true rfl) dX7_open_16 ?_
  refine q_topi 0 (by decide) ?_
  refine va_put (D := (dC, dI)) (ci := 7) (v := .int 0) (ty := .int) (C := RX7) (T := TX7) (N := 16) hx hb hts (fun w h => mc (in_X7 w h)) tyX7 tyX7_ok nmX7 hown hK hP hD hS 0 rfl rfl 1 (by decide) (hts _ (mc m_21)) (fun _ h9 => h9) rfl (by decide +kernel) (by first | rfl | decide) (by first | rfl | decide) (Nat.le_of_ble_eq_true rfl) dX7_open_19 (fun H locs hP hD hS => ?_)
  have hP : va_P (dC, dI) classes [(q0, .inr (7, [.ref q2, .int 0, .ref q3, .ref q4, .ref q5, .ref q6, .ref q7, .ref q8, .ref q9, .ref q10, .int 0, .int (-1), .int 0, .int (-1), .ref q11, .ref q12])), (q1, .inl (k0, 3000, .inl (fun _ => 0))), (q2, .inl (k1, 3000, .inl (fun _ => 0))), (q11, .inr (10, [.ref q13, .ref q14, .ref q15, .ref q16, .ref q17, .ref q18, .ref q19, .int 0, .int 0])), (q13, .inl (k2, 1600, .inl (fun _ => 0))), (q14, .inl (k3, 1600, .inl (fun _ => 0))), (q15, .inl (k4, 1600, .inl (fun _ => 0))), (q16, .inl (k5, 1600, .inl (fun _ => 0))), (q17, .inl (k6, 1600, .inl (fun _ => 0))), (q18, .inl (k7, 1600, .inl (fun _ => 0))), (q12, .inr (0, [.ref q20, .ref q21, .ref q22, .ref q23, .ref q24, .int 0, .ref q25, .ref q26, .ref q27, .ref q28, .ref q29, .ref q30, .ref q31, .ref q32, .int 0, .ref q33, .ref q34, .ref q35, .ref q36]))] H := hP
  have hD : va_D A [(q0, .inr (7, [.ref q2, .int 0, .ref q3, .ref q4, .ref q5, .ref q6, .ref q7, .ref q8, .ref q9, .ref q10, .int 0, .int (-1), .int 0, .int (-1), .ref q11, .ref q12])), (q1, .inl (k0, 3000, .inl (fun _ => 0))), (q2, .inl (k1, 3000, .inl (fun _ => 0))), (q11, .inr (10, [.ref q13, .ref q14, .ref q15, .ref q16, .ref q17, .ref q18, .ref q19, .int 0, .int 0])), (q13, .inl (k2, 1600, .inl (fun _ => 0))), (q14, .inl (k3, 1600, .inl (fun _ => 0))), (q15, .inl (k4, 1600, .inl (fun _ => 0))), (q16, .inl (k5, 1600, .inl (fun _ => 0))), (q17, .inl (k6, 1600, .inl (fun _ => 0))), (q18, .inl (k7, 1600, .inl (fun _ => 0))), (q12, .inr (0, [.ref q20, .ref q21, .ref q22, .ref q23, .ref q24, .int 0, .ref q25, .ref q26, .ref q27, .ref q28, .ref q29, .ref q30, .ref q31, .ref q32, .int 0, .ref q33, .ref q34, .ref q35, .ref q36]))] := hD
  refine lv_aload_n hx hb dX7_open_22 rfl (lv_at hl 1 rfl) ?_
  refine lv_iconst (v := 0) hx hb dX7_open_23 (by decide) ?_
  refine lv_aload_n hx hb dX7_open_24 rfl (lv_at hl 0 rfl) ?_
  refine va_get (D := (dC, dI)) (ci := 7) (v := .ref q2) (C := RX7) (T := TX7) (N := 16) hx hb hts (fun w h => mc (in_X7 w h)) hown hK hP 0 rfl rfl 0 (by decide) (hts _ (mc m_20)) (fun _ h9 => h9) rfl dX7_open_25 ?_
  refine lv_iconst (v := 0) hx hb dX7_open_28 (by decide) ?_
  refine lv_aload_n hx hb dX7_open_29 rfl (lv_at hl 0 rfl) ?_
  refine va_get (D := (dC, dI)) (ci := 7) (v := .int 0) (C := RX7) (T := TX7) (N := 16) hx hb hts (fun w h => mc (in_X7 w h)) hown hK hP 0 rfl rfl 1 (by decide) (hts _ (mc m_21)) (fun _ h9 => h9) rfl dX7_open_30 ?_
  refine va_copyi (ty := .byte) hx hb (by rw [hml]; exact hl.1.symm) hown (hts _ (mc m_273)) (hts _ (mc m_274)) (hts _ (mc m_275)) (hts _ (mc m_276)) hK hP hD hS 1 2 0 1 rfl rfl rfl rfl rfl (by decide) (by decide) (by decide) (by decide) (by decide) (fun i h => absurd h (Nat.not_lt_zero i)) (Nat.le_of_ble_eq_true rfl) (by decide) dX7_open_33 (fun H locs hP hD hS => ?_)
  have hP : va_P (dC, dI) classes [(q0, .inr (7, [.ref q2, .int 0, .ref q3, .ref q4, .ref q5, .ref q6, .ref q7, .ref q8, .ref q9, .ref q10, .int 0, .int (-1), .int 0, .int (-1), .ref q11, .ref q12])), (q1, .inl (k0, 3000, .inl (fun _ => 0))), (q2, .inl (k1, 3000, .inl (va_cpy (fun _ => 0) (fun _ => 0) 0 0 0))), (q11, .inr (10, [.ref q13, .ref q14, .ref q15, .ref q16, .ref q17, .ref q18, .ref q19, .int 0, .int 0])), (q13, .inl (k2, 1600, .inl (fun _ => 0))), (q14, .inl (k3, 1600, .inl (fun _ => 0))), (q15, .inl (k4, 1600, .inl (fun _ => 0))), (q16, .inl (k5, 1600, .inl (fun _ => 0))), (q17, .inl (k6, 1600, .inl (fun _ => 0))), (q18, .inl (k7, 1600, .inl (fun _ => 0))), (q12, .inr (0, [.ref q20, .ref q21, .ref q22, .ref q23, .ref q24, .int 0, .ref q25, .ref q26, .ref q27, .ref q28, .ref q29, .ref q30, .ref q31, .ref q32, .int 0, .ref q33, .ref q34, .ref q35, .ref q36]))] H := hP
  have hD : va_D A [(q0, .inr (7, [.ref q2, .int 0, .ref q3, .ref q4, .ref q5, .ref q6, .ref q7, .ref q8, .ref q9, .ref q10, .int 0, .int (-1), .int 0, .int (-1), .ref q11, .ref q12])), (q1, .inl (k0, 3000, .inl (fun _ => 0))), (q2, .inl (k1, 3000, .inl (va_cpy (fun _ => 0) (fun _ => 0) 0 0 0))), (q11, .inr (10, [.ref q13, .ref q14, .ref q15, .ref q16, .ref q17, .ref q18, .ref q19, .int 0, .int 0])), (q13, .inl (k2, 1600, .inl (fun _ => 0))), (q14, .inl (k3, 1600, .inl (fun _ => 0))), (q15, .inl (k4, 1600, .inl (fun _ => 0))), (q16, .inl (k5, 1600, .inl (fun _ => 0))), (q17, .inl (k6, 1600, .inl (fun _ => 0))), (q18, .inl (k7, 1600, .inl (fun _ => 0))), (q12, .inr (0, [.ref q20, .ref q21, .ref q22, .ref q23, .ref q24, .int 0, .ref q25, .ref q26, .ref q27, .ref q28, .ref q29, .ref q30, .ref q31, .ref q32, .int 0, .ref q33, .ref q34, .ref q35, .ref q36]))] := hD
  obtain ⟨f101, ef101⟩ : ∃ z : Nat → Int32, z = (va_cpy (fun _ => 0) (fun _ => 0) 0 0 0) := ⟨_, rfl⟩
  rw [← ef101] at hP hD
  have hP : va_P (dC, dI) classes [(q0, .inr (7, [.ref q2, .int 0, .ref q3, .ref q4, .ref q5, .ref q6, .ref q7, .ref q8, .ref q9, .ref q10, .int 0, .int (-1), .int 0, .int (-1), .ref q11, .ref q12])), (q1, .inl (k0, 3000, .inl (fun _ => 0))), (q2, .inl (k1, 3000, .inl f101)), (q11, .inr (10, [.ref q13, .ref q14, .ref q15, .ref q16, .ref q17, .ref q18, .ref q19, .int 0, .int 0])), (q13, .inl (k2, 1600, .inl (fun _ => 0))), (q14, .inl (k3, 1600, .inl (fun _ => 0))), (q15, .inl (k4, 1600, .inl (fun _ => 0))), (q16, .inl (k5, 1600, .inl (fun _ => 0))), (q17, .inl (k6, 1600, .inl (fun _ => 0))), (q18, .inl (k7, 1600, .inl (fun _ => 0))), (q12, .inr (0, [.ref q20, .ref q21, .ref q22, .ref q23, .ref q24, .int 0, .ref q25, .ref q26, .ref q27, .ref q28, .ref q29, .ref q30, .ref q31, .ref q32, .int 0, .ref q33, .ref q34, .ref q35, .ref q36]))] H := hP
  have hD : va_D A [(q0, .inr (7, [.ref q2, .int 0, .ref q3, .ref q4, .ref q5, .ref q6, .ref q7, .ref q8, .ref q9, .ref q10, .int 0, .int (-1), .int 0, .int (-1), .ref q11, .ref q12])), (q1, .inl (k0, 3000, .inl (fun _ => 0))), (q2, .inl (k1, 3000, .inl f101)), (q11, .inr (10, [.ref q13, .ref q14, .ref q15, .ref q16, .ref q17, .ref q18, .ref q19, .int 0, .int 0])), (q13, .inl (k2, 1600, .inl (fun _ => 0))), (q14, .inl (k3, 1600, .inl (fun _ => 0))), (q15, .inl (k4, 1600, .inl (fun _ => 0))), (q16, .inl (k5, 1600, .inl (fun _ => 0))), (q17, .inl (k6, 1600, .inl (fun _ => 0))), (q18, .inl (k7, 1600, .inl (fun _ => 0))), (q12, .inr (0, [.ref q20, .ref q21, .ref q22, .ref q23, .ref q24, .int 0, .ref q25, .ref q26, .ref q27, .ref q28, .ref q29, .ref q30, .ref q31, .ref q32, .int 0, .ref q33, .ref q34, .ref q35, .ref q36]))] := hD
  refine lv_aload_n hx hb dX7_open_36 rfl (lv_at hl 0 rfl) ?_
  refine lv_iconst (v := 0) hx hb dX7_open_37 (by decide) ?_
  refine va_put (D := (dC, dI)) (ci := 7) (v := .int 0) (ty := .int) (C := RX7) (T := TX7) (N := 16) hx hb hts (fun w h => mc (in_X7 w h)) tyX7 tyX7_ok nmX7 hown hK hP hD hS 0 rfl rfl 10 (by decide) (hts _ (mc m_31)) (fun _ h9 => h9) rfl (by decide +kernel) (by first | rfl | decide) (by first | rfl | decide) (Nat.le_of_ble_eq_true rfl) dX7_open_38 (fun H locs hP hD hS => ?_)
  have hP : va_P (dC, dI) classes [(q0, .inr (7, [.ref q2, .int 0, .ref q3, .ref q4, .ref q5, .ref q6, .ref q7, .ref q8, .ref q9, .ref q10, .int 0, .int (-1), .int 0, .int (-1), .ref q11, .ref q12])), (q1, .inl (k0, 3000, .inl (fun _ => 0))), (q2, .inl (k1, 3000, .inl f101)), (q11, .inr (10, [.ref q13, .ref q14, .ref q15, .ref q16, .ref q17, .ref q18, .ref q19, .int 0, .int 0])), (q13, .inl (k2, 1600, .inl (fun _ => 0))), (q14, .inl (k3, 1600, .inl (fun _ => 0))), (q15, .inl (k4, 1600, .inl (fun _ => 0))), (q16, .inl (k5, 1600, .inl (fun _ => 0))), (q17, .inl (k6, 1600, .inl (fun _ => 0))), (q18, .inl (k7, 1600, .inl (fun _ => 0))), (q12, .inr (0, [.ref q20, .ref q21, .ref q22, .ref q23, .ref q24, .int 0, .ref q25, .ref q26, .ref q27, .ref q28, .ref q29, .ref q30, .ref q31, .ref q32, .int 0, .ref q33, .ref q34, .ref q35, .ref q36]))] H := hP
  have hD : va_D A [(q0, .inr (7, [.ref q2, .int 0, .ref q3, .ref q4, .ref q5, .ref q6, .ref q7, .ref q8, .ref q9, .ref q10, .int 0, .int (-1), .int 0, .int (-1), .ref q11, .ref q12])), (q1, .inl (k0, 3000, .inl (fun _ => 0))), (q2, .inl (k1, 3000, .inl f101)), (q11, .inr (10, [.ref q13, .ref q14, .ref q15, .ref q16, .ref q17, .ref q18, .ref q19, .int 0, .int 0])), (q13, .inl (k2, 1600, .inl (fun _ => 0))), (q14, .inl (k3, 1600, .inl (fun _ => 0))), (q15, .inl (k4, 1600, .inl (fun _ => 0))), (q16, .inl (k5, 1600, .inl (fun _ => 0))), (q17, .inl (k6, 1600, .inl (fun _ => 0))), (q18, .inl (k7, 1600, .inl (fun _ => 0))), (q12, .inr (0, [.ref q20, .ref q21, .ref q22, .ref q23, .ref q24, .int 0, .ref q25, .ref q26, .ref q27, .ref q28, .ref q29, .ref q30, .ref q31, .ref q32, .int 0, .ref q33, .ref q34, .ref q35, .ref q36]))] := hD
  refine lv_aload_n hx hb dX7_open_41 rfl (lv_at hl 0 rfl) ?_
  refine lv_iconst (v := (-1)) hx hb dX7_open_42 (by decide) ?_
  refine va_put (D := (dC, dI)) (ci := 7) (v := .int (-1)) (ty := .int) (C := RX7) (T := TX7) (N := 16) hx hb hts (fun w h => mc (in_X7 w h)) tyX7 tyX7_ok nmX7 hown hK hP hD hS 0 rfl rfl 11 (by decide) (hts _ (mc m_32)) (fun _ h9 => h9) rfl (by decide +kernel) (by first | rfl | decide) (by first | rfl | decide) (Nat.le_of_ble_eq_true rfl) dX7_open_43 (fun H locs hP hD hS => ?_)
  have hP : va_P (dC, dI) classes [(q0, .inr (7, [.ref q2, .int 0, .ref q3, .ref q4, .ref q5, .ref q6, .ref q7, .ref q8, .ref q9, .ref q10, .int 0, .int (-1), .int 0, .int (-1), .ref q11, .ref q12])), (q1, .inl (k0, 3000, .inl (fun _ => 0))), (q2, .inl (k1, 3000, .inl f101)), (q11, .inr (10, [.ref q13, .ref q14, .ref q15, .ref q16, .ref q17, .ref q18, .ref q19, .int 0, .int 0])), (q13, .inl (k2, 1600, .inl (fun _ => 0))), (q14, .inl (k3, 1600, .inl (fun _ => 0))), (q15, .inl (k4, 1600, .inl (fun _ => 0))), (q16, .inl (k5, 1600, .inl (fun _ => 0))), (q17, .inl (k6, 1600, .inl (fun _ => 0))), (q18, .inl (k7, 1600, .inl (fun _ => 0))), (q12, .inr (0, [.ref q20, .ref q21, .ref q22, .ref q23, .ref q24, .int 0, .ref q25, .ref q26, .ref q27, .ref q28, .ref q29, .ref q30, .ref q31, .ref q32, .int 0, .ref q33, .ref q34, .ref q35, .ref q36]))] H := hP
  have hD : va_D A [(q0, .inr (7, [.ref q2, .int 0, .ref q3, .ref q4, .ref q5, .ref q6, .ref q7, .ref q8, .ref q9, .ref q10, .int 0, .int (-1), .int 0, .int (-1), .ref q11, .ref q12])), (q1, .inl (k0, 3000, .inl (fun _ => 0))), (q2, .inl (k1, 3000, .inl f101)), (q11, .inr (10, [.ref q13, .ref q14, .ref q15, .ref q16, .ref q17, .ref q18, .ref q19, .int 0, .int 0])), (q13, .inl (k2, 1600, .inl (fun _ => 0))), (q14, .inl (k3, 1600, .inl (fun _ => 0))), (q15, .inl (k4, 1600, .inl (fun _ => 0))), (q16, .inl (k5, 1600, .inl (fun _ => 0))), (q17, .inl (k6, 1600, .inl (fun _ => 0))), (q18, .inl (k7, 1600, .inl (fun _ => 0))), (q12, .inr (0, [.ref q20, .ref q21, .ref q22, .ref q23, .ref q24, .int 0, .ref q25, .ref q26, .ref q27, .ref q28, .ref q29, .ref q30, .ref q31, .ref q32, .int 0, .ref q33, .ref q34, .ref q35, .ref q36]))] := hD
  refine lv_aload_n hx hb dX7_open_46 rfl (lv_at hl 0 rfl) ?_
  refine lv_iconst (v := 0) hx hb dX7_open_47 (by decide) ?_
  refine va_put (D := (dC, dI)) (ci := 7) (v := .int 0) (ty := .int) (C := RX7) (T := TX7) (N := 16) hx hb hts (fun w h => mc (in_X7 w h)) tyX7 tyX7_ok nmX7 hown hK hP hD hS 0 rfl rfl 12 (by decide) (hts _ (mc m_33)) (fun _ h9 => h9) rfl (by decide +kernel) (by first | rfl | decide) (by first | rfl | decide) (Nat.le_of_ble_eq_true rfl) dX7_open_48 (fun H locs hP hD hS => ?_)
  have hP : va_P (dC, dI) classes [(q0, .inr (7, [.ref q2, .int 0, .ref q3, .ref q4, .ref q5, .ref q6, .ref q7, .ref q8, .ref q9, .ref q10, .int 0, .int (-1), .int 0, .int (-1), .ref q11, .ref q12])), (q1, .inl (k0, 3000, .inl (fun _ => 0))), (q2, .inl (k1, 3000, .inl f101)), (q11, .inr (10, [.ref q13, .ref q14, .ref q15, .ref q16, .ref q17, .ref q18, .ref q19, .int 0, .int 0])), (q13, .inl (k2, 1600, .inl (fun _ => 0))), (q14, .inl (k3, 1600, .inl (fun _ => 0))), (q15, .inl (k4, 1600, .inl (fun _ => 0))), (q16, .inl (k5, 1600, .inl (fun _ => 0))), (q17, .inl (k6, 1600, .inl (fun _ => 0))), (q18, .inl (k7, 1600, .inl (fun _ => 0))), (q12, .inr (0, [.ref q20, .ref q21, .ref q22, .ref q23, .ref q24, .int 0, .ref q25, .ref q26, .ref q27, .ref q28, .ref q29, .ref q30, .ref q31, .ref q32, .int 0, .ref q33, .ref q34, .ref q35, .ref q36]))] H := hP
  have hD : va_D A [(q0, .inr (7, [.ref q2, .int 0, .ref q3, .ref q4, .ref q5, .ref q6, .ref q7, .ref q8, .ref q9, .ref q10, .int 0, .int (-1), .int 0, .int (-1), .ref q11, .ref q12])), (q1, .inl (k0, 3000, .inl (fun _ => 0))), (q2, .inl (k1, 3000, .inl f101)), (q11, .inr (10, [.ref q13, .ref q14, .ref q15, .ref q16, .ref q17, .ref q18, .ref q19, .int 0, .int 0])), (q13, .inl (k2, 1600, .inl (fun _ => 0))), (q14, .inl (k3, 1600, .inl (fun _ => 0))), (q15, .inl (k4, 1600, .inl (fun _ => 0))), (q16, .inl (k5, 1600, .inl (fun _ => 0))), (q17, .inl (k6, 1600, .inl (fun _ => 0))), (q18, .inl (k7, 1600, .inl (fun _ => 0))), (q12, .inr (0, [.ref q20, .ref q21, .ref q22, .ref q23, .ref q24, .int 0, .ref q25, .ref q26, .ref q27, .ref q28, .ref q29, .ref q30, .ref q31, .ref q32, .int 0, .ref q33, .ref q34, .ref q35, .ref q36]))] := hD
  refine lv_aload_n hx hb dX7_open_51 rfl (lv_at hl 0 rfl) ?_
  refine lv_iconst (v := (-1)) hx hb dX7_open_52 (by decide) ?_
  refine va_put (D := (dC, dI)) (ci := 7) (v := .int (-1)) (ty := .int) (C := RX7) (T := TX7) (N := 16) hx hb hts (fun w h => mc (in_X7 w h)) tyX7 tyX7_ok nmX7 hown hK hP hD hS 0 rfl rfl 13 (by decide) (hts _ (mc m_34)) (fun _ h9 => h9) rfl (by decide +kernel) (by first | rfl | decide) (by first | rfl | decide) (Nat.le_of_ble_eq_true rfl) dX7_open_53 (fun H locs hP hD hS => ?_)
  have hP : va_P (dC, dI) classes [(q0, .inr (7, [.ref q2, .int 0, .ref q3, .ref q4, .ref q5, .ref q6, .ref q7, .ref q8, .ref q9, .ref q10, .int 0, .int (-1), .int 0, .int (-1), .ref q11, .ref q12])), (q1, .inl (k0, 3000, .inl (fun _ => 0))), (q2, .inl (k1, 3000, .inl f101)), (q11, .inr (10, [.ref q13, .ref q14, .ref q15, .ref q16, .ref q17, .ref q18, .ref q19, .int 0, .int 0])), (q13, .inl (k2, 1600, .inl (fun _ => 0))), (q14, .inl (k3, 1600, .inl (fun _ => 0))), (q15, .inl (k4, 1600, .inl (fun _ => 0))), (q16, .inl (k5, 1600, .inl (fun _ => 0))), (q17, .inl (k6, 1600, .inl (fun _ => 0))), (q18, .inl (k7, 1600, .inl (fun _ => 0))), (q12, .inr (0, [.ref q20, .ref q21, .ref q22, .ref q23, .ref q24, .int 0, .ref q25, .ref q26, .ref q27, .ref q28, .ref q29, .ref q30, .ref q31, .ref q32, .int 0, .ref q33, .ref q34, .ref q35, .ref q36]))] H := hP
  have hD : va_D A [(q0, .inr (7, [.ref q2, .int 0, .ref q3, .ref q4, .ref q5, .ref q6, .ref q7, .ref q8, .ref q9, .ref q10, .int 0, .int (-1), .int 0, .int (-1), .ref q11, .ref q12])), (q1, .inl (k0, 3000, .inl (fun _ => 0))), (q2, .inl (k1, 3000, .inl f101)), (q11, .inr (10, [.ref q13, .ref q14, .ref q15, .ref q16, .ref q17, .ref q18, .ref q19, .int 0, .int 0])), (q13, .inl (k2, 1600, .inl (fun _ => 0))), (q14, .inl (k3, 1600, .inl (fun _ => 0))), (q15, .inl (k4, 1600, .inl (fun _ => 0))), (q16, .inl (k5, 1600, .inl (fun _ => 0))), (q17, .inl (k6, 1600, .inl (fun _ => 0))), (q18, .inl (k7, 1600, .inl (fun _ => 0))), (q12, .inr (0, [.ref q20, .ref q21, .ref q22, .ref q23, .ref q24, .int 0, .ref q25, .ref q26, .ref q27, .ref q28, .ref q29, .ref q30, .ref q31, .ref q32, .int 0, .ref q33, .ref q34, .ref q35, .ref q36]))] := hD
  refine lv_aload_n hx hb dX7_open_56 rfl (lv_at hl 0 rfl) ?_
  refine va_get (D := (dC, dI)) (ci := 7) (v := .ref q11) (C := RX7) (T := TX7) (N := 16) hx hb hts (fun w h => mc (in_X7 w h)) hown hK hP 0 rfl rfl 14 (by decide) (hts _ (mc m_51)) (fun _ h9 => h9) rfl dX7_open_57 ?_
  have hPc := hP.sub (ws' := [(q11, .inr (10, [.ref q13, .ref q14, .ref q15, .ref q16, .ref q17, .ref q18, .ref q19, .int 0, .int 0])), (q13, .inl (k2, 1600, .inl (fun _ => 0))), (q14, .inl (k3, 1600, .inl (fun _ => 0))), (q15, .inl (k4, 1600, .inl (fun _ => 0))), (q16, .inl (k5, 1600, .inl (fun _ => 0))), (q17, .inl (k6, 1600, .inl (fun _ => 0))), (q18, .inl (k7, 1600, .inl (fun _ => 0)))]) [3, 4, 5, 6, 7, 8, 9] rfl
  have hDc := hD.sub (ws' := [(q11, .inr (10, [.ref q13, .ref q14, .ref q15, .ref q16, .ref q17, .ref q18, .ref q19, .int 0, .int 0])), (q13, .inl (k2, 1600, .inl (fun _ => 0))), (q14, .inl (k3, 1600, .inl (fun _ => 0))), (q15, .inl (k4, 1600, .inl (fun _ => 0))), (q16, .inl (k5, 1600, .inl (fun _ => 0))), (q17, .inl (k6, 1600, .inl (fun _ => 0))), (q18, .inl (k7, 1600, .inl (fun _ => 0)))]) [3, 4, 5, 6, 7, 8, 9] (by decide) rfl
  have hKc := hK.sub (tys' := [(k2, .int), (k3, .int), (k4, .int), (k5, .int), (k6, .int), (k7, .int)]) [2, 3, 4, 5, 6, 7] rfl
  have hFc := va_free (wc := [(q11, .inr (10, [.ref q13, .ref q14, .ref q15, .ref q16, .ref q17, .ref q18, .ref q19, .int 0, .int 0])), (q13, .inl (k2, 1600, .inl (fun _ => 0))), (q14, .inl (k3, 1600, .inl (fun _ => 0))), (q15, .inl (k4, 1600, .inl (fun _ => 0))), (q16, .inl (k5, 1600, .inl (fun _ => 0))), (q17, .inl (k6, 1600, .inl (fun _ => 0))), (q18, .inl (k7, 1600, .inl (fun _ => 0)))]) hD hS hA [3, 4, 5, 6, 7, 8, 9] rfl
  refine va_callv (va_runV (As := []) (rest := []) ⟨hx, hb, hml, hown, hts⟩ (c_X10_clear_0 l dC dI q11 q13 q14 q15 q16 q17 q18 q19 k2 k3 k4 k5 k6 k7 H.size) (cwV 0 hts (gV m_284 m_285 m_286 m_37 m_283) rfl rfl rfl (by decide +kernel) ⟨Nat.le_of_ble_eq_true rfl, Nat.le_of_ble_eq_true rfl⟩) ⟨q_bl, va_recv hKc hPc (ci := 10) (q0 := 0) rfl rfl, q_pre hPc hKc hDc hE hS hFc⟩ rfl rfl hl.1 rfl (lv_room (Nat.le_of_ble_eq_true rfl)) dX7_open_60 ⟨Nat.le_of_ble_eq_true rfl, Nat.le_of_ble_eq_true rfl⟩) hS (fun q _ h => hFc q h) hFc (fun u t H1 locs ht hvm hw hB hz1 hk1 hS => ?_)
  obtain ⟨hP1, hK1, hD1⟩ := hB
  rw [ht] at hP1
  have hK1 := va_K.moved hvm.symm hK1
  obtain ⟨hP, hD⟩ := va_join (wr := [(q0, .inr (7, [.ref q2, .int 0, .ref q3, .ref q4, .ref q5, .ref q6, .ref q7, .ref q8, .ref q9, .ref q10, .int 0, .int (-1), .int 0, .int (-1), .ref q11, .ref q12])), (q1, .inl (k0, 3000, .inl (fun _ => 0))), (q2, .inl (k1, 3000, .inl f101)), (q12, .inr (0, [.ref q20, .ref q21, .ref q22, .ref q23, .ref q24, .int 0, .ref q25, .ref q26, .ref q27, .ref q28, .ref q29, .ref q30, .ref q31, .ref q32, .int 0, .ref q33, .ref q34, .ref q35, .ref q36]))]) (w1 := [(q11, .inr (10, [.ref q13, .ref q14, .ref q15, .ref q16, .ref q17, .ref q18, .ref q19, .int 2, .int 0])), (q13, .inl (k2, 1600, .inl (upd (upd (fun _ => 0) 0 0) 1 1))), (q14, .inl (k3, 1600, .inl (upd (upd (fun _ => 0) 0 (-1)) 1 (-1)))), (q15, .inl (k4, 1600, .inl (upd (upd (fun _ => 0) 0 (-1)) 1 (-1)))), (q16, .inl (k5, 1600, .inl (upd (upd (fun _ => 0) 0 1) 1 1))), (q17, .inl (k6, 1600, .inl (upd (upd (fun _ => 0) 0 (-1)) 1 (-1)))), (q18, .inl (k7, 1600, .inl (upd (upd (fun _ => 0) 0 0) 1 0)))]) hP hD [3, 4, 5, 6, 7, 8, 9] [0, 1, 2, 10] rfl rfl (by decide) (by decide) hk1 hFc hP1 hD1
  have hK := (hK.sub (tys' := [(k0, .byte), (k1, .byte)]) [0, 1] rfl).app hK1
  generalize H1 = H at hP hS ⊢
  have hP : va_P (dC, dI) classes [(q0, .inr (7, [.ref q2, .int 0, .ref q3, .ref q4, .ref q5, .ref q6, .ref q7, .ref q8, .ref q9, .ref q10, .int 0, .int (-1), .int 0, .int (-1), .ref q11, .ref q12])), (q1, .inl (k0, 3000, .inl (fun _ => 0))), (q2, .inl (k1, 3000, .inl f101)), (q12, .inr (0, [.ref q20, .ref q21, .ref q22, .ref q23, .ref q24, .int 0, .ref q25, .ref q26, .ref q27, .ref q28, .ref q29, .ref q30, .ref q31, .ref q32, .int 0, .ref q33, .ref q34, .ref q35, .ref q36])), (q11, .inr (10, [.ref q13, .ref q14, .ref q15, .ref q16, .ref q17, .ref q18, .ref q19, .int 2, .int 0])), (q13, .inl (k2, 1600, .inl (upd (upd (fun _ => 0) 0 0) 1 1))), (q14, .inl (k3, 1600, .inl (upd (upd (fun _ => 0) 0 (-1)) 1 (-1)))), (q15, .inl (k4, 1600, .inl (upd (upd (fun _ => 0) 0 (-1)) 1 (-1)))), (q16, .inl (k5, 1600, .inl (upd (upd (fun _ => 0) 0 1) 1 1))), (q17, .inl (k6, 1600, .inl (upd (upd (fun _ => 0) 0 (-1)) 1 (-1)))), (q18, .inl (k7, 1600, .inl (upd (upd (fun _ => 0) 0 0) 1 0)))] H := hP
  have hD : va_D A [(q0, .inr (7, [.ref q2, .int 0, .ref q3, .ref q4, .ref q5, .ref q6, .ref q7, .ref q8, .ref q9, .ref q10, .int 0, .int (-1), .int 0, .int (-1), .ref q11, .ref q12])), (q1, .inl (k0, 3000, .inl (fun _ => 0))), (q2, .inl (k1, 3000, .inl f101)), (q12, .inr (0, [.ref q20, .ref q21, .ref q22, .ref q23, .ref q24, .int 0, .ref q25, .ref q26, .ref q27, .ref q28, .ref q29, .ref q30, .ref q31, .ref q32, .int 0, .ref q33, .ref q34, .ref q35, .ref q36])), (q11, .inr (10, [.ref q13, .ref q14, .ref q15, .ref q16, .ref q17, .ref q18, .ref q19, .int 2, .int 0])), (q13, .inl (k2, 1600, .inl (upd (upd (fun _ => 0) 0 0) 1 1))), (q14, .inl (k3, 1600, .inl (upd (upd (fun _ => 0) 0 (-1)) 1 (-1)))), (q15, .inl (k4, 1600, .inl (upd (upd (fun _ => 0) 0 (-1)) 1 (-1)))), (q16, .inl (k5, 1600, .inl (upd (upd (fun _ => 0) 0 1) 1 1))), (q17, .inl (k6, 1600, .inl (upd (upd (fun _ => 0) 0 (-1)) 1 (-1)))), (q18, .inl (k7, 1600, .inl (upd (upd (fun _ => 0) 0 0) 1 0)))] := hD
  have hK : va_K (dC, dI) classes [(k0, .byte), (k1, .byte), (k2, .int), (k3, .int), (k4, .int), (k5, .int), (k6, .int), (k7, .int)] s := hK
  refine lv_aload_n hx hb dX7_open_63 rfl (lv_at hl 0 rfl) ?_
  refine va_get (D := (dC, dI)) (ci := 7) (v := .ref q12) (C := RX7) (T := TX7) (N := 16) hx hb hts (fun w h => mc (in_X7 w h)) hown hK hP 0 rfl rfl 15 (by decide) (hts _ (mc m_78)) (fun _ h9 => h9) rfl dX7_open_64 ?_
  have hPc := hP.sub (ws' := [(q12, .inr (0, [.ref q20, .ref q21, .ref q22, .ref q23, .ref q24, .int 0, .ref q25, .ref q26, .ref q27, .ref q28, .ref q29, .ref q30, .ref q31, .ref q32, .int 0, .ref q33, .ref q34, .ref q35, .ref q36]))]) [3] rfl
  have hDc := hD.sub (ws' := [(q12, .inr (0, [.ref q20, .ref q21, .ref q22, .ref q23, .ref q24, .int 0, .ref q25, .ref q26, .ref q27, .ref q28, .ref q29, .ref q30, .ref q31, .ref q32, .int 0, .ref q33, .ref q34, .ref q35, .ref q36]))]) [3] (by decide) rfl
  have hKc := hK.sub (tys' := []) [] rfl
  have hFc := va_free (wc := [(q12, .inr (0, [.ref q20, .ref q21, .ref q22, .ref q23, .ref q24, .int 0, .ref q25, .ref q26, .ref q27, .ref q28, .ref q29, .ref q30, .ref q31, .ref q32, .int 0, .ref q33, .ref q34, .ref q35, .ref q36]))]) hD hS hA [3] rfl
  refine va_callv (va_runV (As := []) (rest := []) ⟨hx, hb, hml, hown, hts⟩ (c_X0_clear_0 l dC dI q12 q20 q21 q22 q23 q24 q25 q26 q27 q28 q29 q30 q31 q32 q33 q34 q35 q36 H.size) (cwV 0 hts (gV m_288 m_289 m_290 m_54 m_287) rfl rfl rfl (by decide +kernel) ⟨Nat.le_of_ble_eq_true rfl, Nat.le_of_ble_eq_true rfl⟩) ⟨q_bl, va_recv hKc hPc (ci := 0) (q0 := 0) rfl rfl, q_pre hPc hKc hDc hE hS hFc⟩ rfl rfl hl.1 rfl (lv_room (Nat.le_of_ble_eq_true rfl)) dX7_open_67 ⟨Nat.le_of_ble_eq_true rfl, Nat.le_of_ble_eq_true rfl⟩) hS (fun q _ h => hFc q h) hFc (fun u t H1 locs ht hvm hw hB hz1 hk1 hS => ?_)
  obtain ⟨hP1, hK1, hD1⟩ := hB
  rw [ht] at hP1
  have hK1 := va_K.moved hvm.symm hK1
  obtain ⟨hP, hD⟩ := va_join (wr := [(q0, .inr (7, [.ref q2, .int 0, .ref q3, .ref q4, .ref q5, .ref q6, .ref q7, .ref q8, .ref q9, .ref q10, .int 0, .int (-1), .int 0, .int (-1), .ref q11, .ref q12])), (q1, .inl (k0, 3000, .inl (fun _ => 0))), (q2, .inl (k1, 3000, .inl f101)), (q11, .inr (10, [.ref q13, .ref q14, .ref q15, .ref q16, .ref q17, .ref q18, .ref q19, .int 2, .int 0])), (q13, .inl (k2, 1600, .inl (upd (upd (fun _ => 0) 0 0) 1 1))), (q14, .inl (k3, 1600, .inl (upd (upd (fun _ => 0) 0 (-1)) 1 (-1)))), (q15, .inl (k4, 1600, .inl (upd (upd (fun _ => 0) 0 (-1)) 1 (-1)))), (q16, .inl (k5, 1600, .inl (upd (upd (fun _ => 0) 0 1) 1 1))), (q17, .inl (k6, 1600, .inl (upd (upd (fun _ => 0) 0 (-1)) 1 (-1)))), (q18, .inl (k7, 1600, .inl (upd (upd (fun _ => 0) 0 0) 1 0)))]) (w1 := [(q12, .inr (0, [.ref q20, .ref q21, .ref q22, .ref q23, .ref q24, .int 0, .ref q25, .ref q26, .ref q27, .ref q28, .ref q29, .ref q30, .ref q31, .ref q32, .int 0, .ref q33, .ref q34, .ref q35, .ref q36]))]) hP hD [3] [0, 1, 2, 4, 5, 6, 7, 8, 9, 10] rfl rfl (by decide) (by decide) hk1 hFc hP1 hD1
  have hK := (hK.sub (tys' := [(k0, .byte), (k1, .byte), (k2, .int), (k3, .int), (k4, .int), (k5, .int), (k6, .int), (k7, .int)]) [0, 1, 2, 3, 4, 5, 6, 7] rfl).app hK1
  generalize H1 = H at hP hS ⊢
  have hP : va_P (dC, dI) classes [(q0, .inr (7, [.ref q2, .int 0, .ref q3, .ref q4, .ref q5, .ref q6, .ref q7, .ref q8, .ref q9, .ref q10, .int 0, .int (-1), .int 0, .int (-1), .ref q11, .ref q12])), (q1, .inl (k0, 3000, .inl (fun _ => 0))), (q2, .inl (k1, 3000, .inl f101)), (q11, .inr (10, [.ref q13, .ref q14, .ref q15, .ref q16, .ref q17, .ref q18, .ref q19, .int 2, .int 0])), (q13, .inl (k2, 1600, .inl (upd (upd (fun _ => 0) 0 0) 1 1))), (q14, .inl (k3, 1600, .inl (upd (upd (fun _ => 0) 0 (-1)) 1 (-1)))), (q15, .inl (k4, 1600, .inl (upd (upd (fun _ => 0) 0 (-1)) 1 (-1)))), (q16, .inl (k5, 1600, .inl (upd (upd (fun _ => 0) 0 1) 1 1))), (q17, .inl (k6, 1600, .inl (upd (upd (fun _ => 0) 0 (-1)) 1 (-1)))), (q18, .inl (k7, 1600, .inl (upd (upd (fun _ => 0) 0 0) 1 0))), (q12, .inr (0, [.ref q20, .ref q21, .ref q22, .ref q23, .ref q24, .int 0, .ref q25, .ref q26, .ref q27, .ref q28, .ref q29, .ref q30, .ref q31, .ref q32, .int 0, .ref q33, .ref q34, .ref q35, .ref q36]))] H := hP
  have hD : va_D A [(q0, .inr (7, [.ref q2, .int 0, .ref q3, .ref q4, .ref q5, .ref q6, .ref q7, .ref q8, .ref q9, .ref q10, .int 0, .int (-1), .int 0, .int (-1), .ref q11, .ref q12])), (q1, .inl (k0, 3000, .inl (fun _ => 0))), (q2, .inl (k1, 3000, .inl f101)), (q11, .inr (10, [.ref q13, .ref q14, .ref q15, .ref q16, .ref q17, .ref q18, .ref q19, .int 2, .int 0])), (q13, .inl (k2, 1600, .inl (upd (upd (fun _ => 0) 0 0) 1 1))), (q14, .inl (k3, 1600, .inl (upd (upd (fun _ => 0) 0 (-1)) 1 (-1)))), (q15, .inl (k4, 1600, .inl (upd (upd (fun _ => 0) 0 (-1)) 1 (-1)))), (q16, .inl (k5, 1600, .inl (upd (upd (fun _ => 0) 0 1) 1 1))), (q17, .inl (k6, 1600, .inl (upd (upd (fun _ => 0) 0 (-1)) 1 (-1)))), (q18, .inl (k7, 1600, .inl (upd (upd (fun _ => 0) 0 0) 1 0))), (q12, .inr (0, [.ref q20, .ref q21, .ref q22, .ref q23, .ref q24, .int 0, .ref q25, .ref q26, .ref q27, .ref q28, .ref q29, .ref q30, .ref q31, .ref q32, .int 0, .ref q33, .ref q34, .ref q35, .ref q36]))] := hD
  have hK : va_K (dC, dI) classes [(k0, .byte), (k1, .byte), (k2, .int), (k3, .int), (k4, .int), (k5, .int), (k6, .int), (k7, .int)] s := hK
  exact W.vret hx hb hr (fun t ht hW => ⟨⟨(), rfl, trivial, f101, by rw [ht]; exact hP, va_K.moved hW.alike hK, hD⟩, hS.F ht⟩) hS.2.2 dX7_open_70
set_option maxHeartbeats 4000000 in
set_option maxRecDepth 100000 in
theorem c_X7_length_0 (l : Launch) (dC : Nat → ClassId) (dI : Nat → Nat → Nat) (q0 : Nat) (q1 : Nat) (q2 : Nat) (q3 : Nat) (q4 : Nat) (q5 : Nat) (q6 : Nat) (q7 : Nat) (q8 : Nat) (q9 : Nat) (q10 : Nat) (q11 : Nat) (sz : Nat) : Met l yX7_length (.code yX7_length cX7_length 1 (some .int) :: bigW) { frames := 0, cells := 0, slots := 0, locals := 0 } (va_Pc [.ref q0] (q_In dC dI [(q0, .inr (7, [.ref q1, .int 0, .ref q2, .ref q3, .ref q4, .ref q5, .ref q6, .ref q7, .ref q8, .ref q9, .int 0, .int (-1), .int 0, .int (-1), .ref q10, .ref q11]))] [] sz)) (va_Qi (fun (r9 : Int32) (_ : Unit) => r9 = 0) (fun _ t => va_P (dC, dI) classes [(q0, .inr (7, [.ref q1, .int 0, .ref q2, .ref q3, .ref q4, .ref q5, .ref q6, .ref q7, .ref q8, .ref q9, .int 0, .int (-1), .int 0, .int (-1), .ref q10, .ref q11]))] t.heap ∧ va_K (dC, dI) classes [] t ∧ va_D (va_A [(q0, .inr (7, [.ref q1, .int 0, .ref q2, .ref q3, .ref q4, .ref q5, .ref q6, .ref q7, .ref q8, .ref q9, .int 0, .int (-1), .int 0, .int (-1), .ref q10, .ref q11]))] sz) [(q0, .inr (7, [.ref q1, .int 0, .ref q2, .ref q3, .ref q4, .ref q5, .ref q6, .ref q7, .ref q8, .ref q9, .int 0, .int (-1), .int 0, .int (-1), .ref q10, .ref q11]))]) (va_A [(q0, .inr (7, [.ref q1, .int 0, .ref q2, .ref q3, .ref q4, .ref q5, .ref q6, .ref q7, .ref q8, .ref q9, .int 0, .int (-1), .int 0, .int (-1), .ref q10, .ref q11]))] sz)) 0 0 (va_A [(q0, .inr (7, [.ref q1, .int 0, .ref q2, .ref q3, .ref q4, .ref q5, .ref q6, .ref q7, .ref q8, .ref q9, .int 0, .int (-1), .int 0, .int (-1), .ref q10, .ref q11]))] sz) := by
  refine Met.ofW (cc := cX7_length) (maxL := 1) (ret := (some .int)) (by decide) rfl ?_
  intro p e s m args below meth c s₁ B hml hv
  obtain ⟨rfl, hsz, hP, hK, hD0, hE⟩ := hv
  have hx := B.exec
  have hb := B.bytes
  have hr := B.returns
  have hts := atoms_spec (ws := .code yX7_length cX7_length 1 (some .int) :: bigW) B.pre
  have hown : s.vm.findClass RX7 = some m.cls := findClass_of_methodNamed B.named
  have hlocks := B.notSynchronized
  subst hsz
  have hD := hD0.self (sz := s.heap.size)
  generalize hAe : va_A [(q0, .inr (7, [.ref q1, .int 0, .ref q2, .ref q3, .ref q4, .ref q5, .ref q6, .ref q7, .ref q8, .ref q9, .int 0, .int (-1), .int 0, .int (-1), .ref q10, .ref q11]))] s.heap.size = A at hD hE ⊢
  have hN : q_N s := hE.2.2.2.1
  have hA : ∀ q : Nat, s.heap.size ≤ q → A q := fun q h => by rw [← hAe]; exact Or.inr h
  have hS : va_S A s.heap s.heap [] := va_S.rf
  have hP : va_P (dC, dI) classes [(q0, .inr (7, [.ref q1, .int 0, .ref q2, .ref q3, .ref q4, .ref q5, .ref q6, .ref q7, .ref q8, .ref q9, .int 0, .int (-1), .int 0, .int (-1), .ref q10, .ref q11]))] s.heap := hP
  have hl := lv_entry ([.ref q0]) (n := 1) (Nat.le_of_ble_eq_true rfl)
  rw [lg_entry_eq]
  generalize (lg_sl ([.ref q0]) ++ List.replicate (1 - (lg_sl ([.ref q0])).length) Slot.unset).toArray = ls at hl ⊢
  have hl : lv_has ls 1 [(0, .ref q0)] := hl
  refine lv_aload_n hx hb dX7_length_0 rfl (lv_at hl 0 rfl) ?_
  refine va_get (D := (dC, dI)) (ci := 7) (v := .int 0) (C := RX7) (T := TX7) (N := 16) hx hb hts (fun w h => mc (in_X7 w h)) hown hK hP 0 rfl rfl 1 (by decide) (hts _ (mc m_21)) (fun _ h9 => h9) rfl dX7_length_1 ?_
  exact W.iret (v := 0) hx hb hr (fun t ht hW => ⟨⟨0, (), rfl, rfl, by rw [ht]; exact hP, va_K.moved hW.alike hK, hD⟩, hS.F ht⟩) hS.2.2 dX7_length_4
set_option maxHeartbeats 4000000 in
set_option maxRecDepth 100000 in
theorem c_X7_letter_0 (l : Launch) (dC : Nat → ClassId) (dI : Nat → Nat → Nat) (q0 : Nat) (q1 : Nat) (q2 : Nat) (q3 : Nat) (q4 : Nat) (q5 : Nat) (q6 : Nat) (q7 : Nat) (q8 : Nat) (q9 : Nat) (q10 : Nat) (q11 : Nat) (sz : Nat) : Met l yX7_letter (.code yX7_letter cX7_letter 2 (some .int) :: bigW) { frames := 0, cells := 0, slots := 0, locals := 0 } (va_Pc [.ref q0, .int 0] (q_In dC dI [(q0, .inr (7, [.ref q1, .int 0, .ref q2, .ref q3, .ref q4, .ref q5, .ref q6, .ref q7, .ref q8, .ref q9, .int 0, .int (-1), .int 0, .int (-1), .ref q10, .ref q11]))] [] sz)) (va_Qi (fun (r9 : Int32) (_ : Unit) => r9 = (-1)) (fun _ t => va_P (dC, dI) classes [(q0, .inr (7, [.ref q1, .int 0, .ref q2, .ref q3, .ref q4, .ref q5, .ref q6, .ref q7, .ref q8, .ref q9, .int 0, .int (-1), .int 0, .int (-1), .ref q10, .ref q11]))] t.heap ∧ va_K (dC, dI) classes [] t ∧ va_D (va_A [(q0, .inr (7, [.ref q1, .int 0, .ref q2, .ref q3, .ref q4, .ref q5, .ref q6, .ref q7, .ref q8, .ref q9, .int 0, .int (-1), .int 0, .int (-1), .ref q10, .ref q11]))] sz) [(q0, .inr (7, [.ref q1, .int 0, .ref q2, .ref q3, .ref q4, .ref q5, .ref q6, .ref q7, .ref q8, .ref q9, .int 0, .int (-1), .int 0, .int (-1), .ref q10, .ref q11]))]) (va_A [(q0, .inr (7, [.ref q1, .int 0, .ref q2, .ref q3, .ref q4, .ref q5, .ref q6, .ref q7, .ref q8, .ref q9, .int 0, .int (-1), .int 0, .int (-1), .ref q10, .ref q11]))] sz)) 0 0 (va_A [(q0, .inr (7, [.ref q1, .int 0, .ref q2, .ref q3, .ref q4, .ref q5, .ref q6, .ref q7, .ref q8, .ref q9, .int 0, .int (-1), .int 0, .int (-1), .ref q10, .ref q11]))] sz) := by
  refine Met.ofW (cc := cX7_letter) (maxL := 2) (ret := (some .int)) (by decide) rfl ?_
  intro p e s m args below meth c s₁ B hml hv
  obtain ⟨rfl, hsz, hP, hK, hD0, hE⟩ := hv
  have hx := B.exec
  have hb := B.bytes
  have hr := B.returns
  have hts := atoms_spec (ws := .code yX7_letter cX7_letter 2 (some .int) :: bigW) B.pre
  have hown : s.vm.findClass RX7 = some m.cls := findClass_of_methodNamed B.named
  have hlocks := B.notSynchronized
  subst hsz
  have hD := hD0.self (sz := s.heap.size)
  generalize hAe : va_A [(q0, .inr (7, [.ref q1, .int 0, .ref q2, .ref q3, .ref q4, .ref q5, .ref q6, .ref q7, .ref q8, .ref q9, .int 0, .int (-1), .int 0, .int (-1), .ref q10, .ref q11]))] s.heap.size = A at hD hE ⊢
  have hN : q_N s := hE.2.2.2.1
  have hA : ∀ q : Nat, s.heap.size ≤ q → A q := fun q h => by rw [← hAe]; exact Or.inr h
  have hS : va_S A s.heap s.heap [] := va_S.rf
  have hP : va_P (dC, dI) classes [(q0, .inr (7, [.ref q1, .int 0, .ref q2, .ref q3, .ref q4, .ref q5, .ref q6, .ref q7, .ref q8, .ref q9, .int 0, .int (-1), .int 0, .int (-1), .ref q10, .ref q11]))] s.heap := hP
  have hl := lv_entry ([.ref q0, .int 0]) (n := 2) (Nat.le_of_ble_eq_true rfl)
  rw [lg_entry_eq]
  generalize (lg_sl ([.ref q0, .int 0]) ++ List.replicate (2 - (lg_sl ([.ref q0, .int 0])).length) Slot.unset).toArray = ls at hl ⊢
  have hl : lv_has ls 2 [(0, .ref q0), (1, .int 0)] := hl
  refine lv_iload_n hx hb dX7_letter_0 rfl (lv_at hl 1 rfl) ?_
  refine lv_if_lt (tgt := 34) hx hb dX7_letter_1 (by decide) (fun c9 => absurd c9 (by decide)) (fun _ => ?_)
  refine lv_iload_n hx hb dX7_letter_4 rfl (lv_at hl 1 rfl) ?_
  refine lv_aload_n hx hb dX7_letter_5 rfl (lv_at hl 0 rfl) ?_
  refine va_get (D := (dC, dI)) (ci := 7) (v := .int 0) (C := RX7) (T := TX7) (N := 16) hx hb hts (fun w h => mc (in_X7 w h)) hown hK hP 0 rfl rfl 1 (by decide) (hts _ (mc m_21)) (fun _ h9 => h9) rfl dX7_letter_6 ?_
  refine lv_icmp_ge (tgt := 34) hx hb dX7_letter_9 (by decide) (fun _ => ?_) (fun c9 => absurd (by decide) c9)
  refine lv_iconst (v := (-1)) hx hb dX7_letter_34 (by decide) ?_
  exact W.iret (v := (-1)) hx hb hr (fun t ht hW => ⟨⟨(-1), (), rfl, rfl, by rw [ht]; exact hP, va_K.moved hW.alike hK, hD⟩, hS.F ht⟩) hS.2.2 dX7_letter_35
set_option maxHeartbeats 4000000 in
set_option maxRecDepth 100000 in
theorem c_X8_scan_0 (l : Launch) (dC : Nat → ClassId) (dI : Nat → Nat → Nat) (q0 : Nat) (q1 : Nat) (q2 : Nat) (q3 : Nat) (q4 : Nat) (q5 : Nat) (q6 : Nat) (q7 : Nat) (q8 : Nat) (q9 : Nat) (q10 : Nat) (q11 : Nat) (q12 : Nat) (q13 : Nat) (q14 : Nat) (q15 : Nat) (sz : Nat) : Met l yX8_scan (.code yX8_scan cX8_scan 3 none :: bigW) { frames := 1, cells := 0, slots := 0, locals := 21 } (va_Pc [.ref q0] (q_In dC dI [(q0, .inr (8, [.ref q1, .ref q2, .ref q3, .ref q4, .int 0, .int 0, .int 1, .int 0, .int 0])), (q1, .inr (7, [.ref q5, .int 0, .ref q6, .ref q7, .ref q8, .ref q9, .ref q10, .ref q11, .ref q12, .ref q13, .int 0, .int (-1), .int 0, .int (-1), .ref q14, .ref q15]))] [] sz)) (va_Qv (fun _ : Unit => True) (fun _ t => va_P (dC, dI) classes [(q0, .inr (8, [.ref q1, .ref q2, .ref q3, .ref q4, .int 0, .int 0, .int 0, .int 0, .int 0])), (q1, .inr (7, [.ref q5, .int 0, .ref q6, .ref q7, .ref q8, .ref q9, .ref q10, .ref q11, .ref q12, .ref q13, .int 0, .int (-1), .int 0, .int (-1), .ref q14, .ref q15]))] t.heap ∧ va_K (dC, dI) classes [] t ∧ va_D (va_A [(q0, .inr (8, [.ref q1, .ref q2, .ref q3, .ref q4, .int 0, .int 0, .int 1, .int 0, .int 0])), (q1, .inr (7, [.ref q5, .int 0, .ref q6, .ref q7, .ref q8, .ref q9, .ref q10, .ref q11, .ref q12, .ref q13, .int 0, .int (-1), .int 0, .int (-1), .ref q14, .ref q15]))] sz) [(q0, .inr (8, [.ref q1, .ref q2, .ref q3, .ref q4, .int 0, .int 0, .int 0, .int 0, .int 0])), (q1, .inr (7, [.ref q5, .int 0, .ref q6, .ref q7, .ref q8, .ref q9, .ref q10, .ref q11, .ref q12, .ref q13, .int 0, .int (-1), .int 0, .int (-1), .ref q14, .ref q15]))]) (va_A [(q0, .inr (8, [.ref q1, .ref q2, .ref q3, .ref q4, .int 0, .int 0, .int 1, .int 0, .int 0])), (q1, .inr (7, [.ref q5, .int 0, .ref q6, .ref q7, .ref q8, .ref q9, .ref q10, .ref q11, .ref q12, .ref q13, .int 0, .int (-1), .int 0, .int (-1), .ref q14, .ref q15]))] sz)) 0 0 (va_A [(q0, .inr (8, [.ref q1, .ref q2, .ref q3, .ref q4, .int 0, .int 0, .int 1, .int 0, .int 0])), (q1, .inr (7, [.ref q5, .int 0, .ref q6, .ref q7, .ref q8, .ref q9, .ref q10, .ref q11, .ref q12, .ref q13, .int 0, .int (-1), .int 0, .int (-1), .ref q14, .ref q15]))] sz) := by
  refine Met.ofW (cc := cX8_scan) (maxL := 3) (ret := none) (by decide) rfl ?_
  intro p e s m args below meth c s₁ B hml hv
  obtain ⟨rfl, hsz, hP, hK, hD0, hE⟩ := hv
  have hx := B.exec
  have hb := B.bytes
  have hr := B.returns
  have hts := atoms_spec (ws := .code yX8_scan cX8_scan 3 none :: bigW) B.pre
  have hown : s.vm.findClass RX8 = some m.cls := findClass_of_methodNamed B.named
  have hlocks := B.notSynchronized
  subst hsz
  have hD := hD0.self (sz := s.heap.size)
  generalize hAe : va_A [(q0, .inr (8, [.ref q1, .ref q2, .ref q3, .ref q4, .int 0, .int 0, .int 1, .int 0, .int 0])), (q1, .inr (7, [.ref q5, .int 0, .ref q6, .ref q7, .ref q8, .ref q9, .ref q10, .ref q11, .ref q12, .ref q13, .int 0, .int (-1), .int 0, .int (-1), .ref q14, .ref q15]))] s.heap.size = A at hD hE ⊢
  have hN : q_N s := hE.2.2.2.1
  have hA : ∀ q : Nat, s.heap.size ≤ q → A q := fun q h => by rw [← hAe]; exact Or.inr h
  have hS : va_S A s.heap s.heap [] := va_S.rf
  have hP : va_P (dC, dI) classes [(q0, .inr (8, [.ref q1, .ref q2, .ref q3, .ref q4, .int 0, .int 0, .int 1, .int 0, .int 0])), (q1, .inr (7, [.ref q5, .int 0, .ref q6, .ref q7, .ref q8, .ref q9, .ref q10, .ref q11, .ref q12, .ref q13, .int 0, .int (-1), .int 0, .int (-1), .ref q14, .ref q15]))] s.heap := hP
  have hl := lv_entry ([.ref q0]) (n := 3) (Nat.le_of_ble_eq_true rfl)
  rw [lg_entry_eq]
  generalize (lg_sl ([.ref q0]) ++ List.replicate (3 - (lg_sl ([.ref q0])).length) Slot.unset).toArray = ls at hl ⊢
  have hl : lv_has ls 3 [(0, .ref q0)] := hl
  refine lv_aload_n hx hb dX8_scan_0 rfl (lv_at hl 0 rfl) ?_
  refine va_get (D := (dC, dI)) (ci := 8) (v := .int 0) (C := RX8) (T := TX8) (N := 9) hx hb hts (fun w h => mc (in_X8 w h)) hown hK hP 0 rfl rfl 8 (by decide) (hts _ (mc m_109)) (fun _ h9 => h9) rfl dX8_scan_1 ?_
  refine lv_istore_n (lv' := [(1, .int 0), (0, .ref q0)]) hx hb dX8_scan_4 rfl hl (by decide) rfl (fun ls hl => ?_)
  refine lv_iload_n hx hb dX8_scan_5 rfl (lv_at hl 0 rfl) ?_
  refine lv_aload_n hx hb dX8_scan_6 rfl (lv_at hl 1 rfl) ?_
  refine va_get (D := (dC, dI)) (ci := 8) (v := .ref q1) (C := RX8) (T := TX8) (N := 9) hx hb hts (fun w h => mc (in_X8 w h)) hown hK hP 0 rfl rfl 0 (by decide) (hts _ (mc m_101)) (fun _ h9 => h9) rfl dX8_scan_7 ?_
  have hPc := hP.sub (ws' := [(q1, .inr (7, [.ref q5, .int 0, .ref q6, .ref q7, .ref q8, .ref q9, .ref q10, .ref q11, .ref q12, .ref q13, .int 0, .int (-1), .int 0, .int (-1), .ref q14, .ref q15]))]) [1] rfl
  have hDc := hD.sub (ws' := [(q1, .inr (7, [.ref q5, .int 0, .ref q6, .ref q7, .ref q8, .ref q9, .ref q10, .ref q11, .ref q12, .ref q13, .int 0, .int (-1), .int 0, .int (-1), .ref q14, .ref q15]))]) [1] (by decide) rfl
  have hKc := hK.sub (tys' := []) [] rfl
  have hFc := va_free (wc := [(q1, .inr (7, [.ref q5, .int 0, .ref q6, .ref q7, .ref q8, .ref q9, .ref q10, .ref q11, .ref q12, .ref q13, .int 0, .int (-1), .int 0, .int (-1), .ref q14, .ref q15]))]) hD hS hA [1] rfl
  refine va_calli (va_runV (As := []) (rest := [.int 0]) ⟨hx, hb, hml, hown, hts⟩ (c_X7_length_0 l dC dI q1 q5 q6 q7 q8 q9 q10 q11 q12 q13 q14 q15 s.heap.size) (cwV 0 hts (gV m_296 m_297 m_298 m_18 m_295) rfl rfl rfl (by decide +kernel) ⟨Nat.le_of_ble_eq_true rfl, Nat.le_of_ble_eq_true rfl⟩) ⟨q_bl, va_recv hKc hPc (ci := 7) (q0 := 0) rfl rfl, q_pre hPc hKc hDc hE hS hFc⟩ rfl rfl hl.1 rfl (lv_room (Nat.le_of_ble_eq_true rfl)) dX8_scan_10 ⟨Nat.le_of_ble_eq_true rfl, Nat.le_of_ble_eq_true rfl⟩) hS (fun q _ h => hFc q h) hFc (fun r9 u t H1 locs ht hvm hw hB hz1 hk1 hS => ?_)
  obtain ⟨hP1, hK1, hD1⟩ := hB
  rw [ht] at hP1
  have hK1 := va_K.moved hvm.symm hK1
  obtain ⟨hP, hD⟩ := va_join (wr := [(q0, .inr (8, [.ref q1, .ref q2, .ref q3, .ref q4, .int 0, .int 0, .int 1, .int 0, .int 0]))]) (w1 := [(q1, .inr (7, [.ref q5, .int 0, .ref q6, .ref q7, .ref q8, .ref q9, .ref q10, .ref q11, .ref q12, .ref q13, .int 0, .int (-1), .int 0, .int (-1), .ref q14, .ref q15]))]) hP hD [1] [0] rfl rfl (by decide) (by decide) hk1 hFc hP1 hD1
  have hK := (hK.sub (tys' := []) [] rfl).app hK1
  generalize H1 = H at hP hS ⊢
  have hP : va_P (dC, dI) classes [(q0, .inr (8, [.ref q1, .ref q2, .ref q3, .ref q4, .int 0, .int 0, .int 1, .int 0, .int 0])), (q1, .inr (7, [.ref q5, .int 0, .ref q6, .ref q7, .ref q8, .ref q9, .ref q10, .ref q11, .ref q12, .ref q13, .int 0, .int (-1), .int 0, .int (-1), .ref q14, .ref q15]))] H := hP
  have hD : va_D A [(q0, .inr (8, [.ref q1, .ref q2, .ref q3, .ref q4, .int 0, .int 0, .int 1, .int 0, .int 0])), (q1, .inr (7, [.ref q5, .int 0, .ref q6, .ref q7, .ref q8, .ref q9, .ref q10, .ref q11, .ref q12, .ref q13, .int 0, .int (-1), .int 0, .int (-1), .ref q14, .ref q15]))] := hD
  have hK : va_K (dC, dI) classes [] s := hK
  rw [hw]
  refine lv_icmp_ge (tgt := 36) hx hb dX8_scan_13 (by decide) (fun _ => ?_) (fun c9 => absurd (by decide) c9)
  refine lv_aload_n hx hb dX8_scan_36 rfl (lv_at hl 1 rfl) ?_
  refine lv_iload_n hx hb dX8_scan_37 rfl (lv_at hl 0 rfl) ?_
  refine va_put (D := (dC, dI)) (ci := 8) (v := .int 0) (ty := .int) (C := RX8) (T := TX8) (N := 9) hx hb hts (fun w h => mc (in_X8 w h)) tyX8 tyX8_ok nmX8 hown hK hP hD hS 0 rfl rfl 7 (by decide) (hts _ (mc m_108)) (fun _ h9 => h9) rfl (by decide +kernel) (by first | rfl | decide) (by first | rfl | decide) (Nat.le_of_ble_eq_true rfl) dX8_scan_38 (fun H locs hP hD hS => ?_)
  have hP : va_P (dC, dI) classes [(q0, .inr (8, [.ref q1, .ref q2, .ref q3, .ref q4, .int 0, .int 0, .int 1, .int 0, .int 0])), (q1, .inr (7, [.ref q5, .int 0, .ref q6, .ref q7, .ref q8, .ref q9, .ref q10, .ref q11, .ref q12, .ref q13, .int 0, .int (-1), .int 0, .int (-1), .ref q14, .ref q15]))] H := hP
  have hD : va_D A [(q0, .inr (8, [.ref q1, .ref q2, .ref q3, .ref q4, .int 0, .int 0, .int 1, .int 0, .int 0])), (q1, .inr (7, [.ref q5, .int 0, .ref q6, .ref q7, .ref q8, .ref q9, .ref q10, .ref q11, .ref q12, .ref q13, .int 0, .int (-1), .int 0, .int (-1), .ref q14, .ref q15]))] := hD
  refine lv_aload_n hx hb dX8_scan_41 rfl (lv_at hl 1 rfl) ?_
  refine va_get (D := (dC, dI)) (ci := 8) (v := .ref q1) (C := RX8) (T := TX8) (N := 9) hx hb hts (fun w h => mc (in_X8 w h)) hown hK hP 0 rfl rfl 0 (by decide) (hts _ (mc m_101)) (fun _ h9 => h9) rfl dX8_scan_42 ?_
  refine lv_iload_n hx hb dX8_scan_45 rfl (lv_at hl 0 rfl) ?_
  have hPc := hP.sub (ws' := [(q1, .inr (7, [.ref q5, .int 0, .ref q6, .ref q7, .ref q8, .ref q9, .ref q10, .ref q11, .ref q12, .ref q13, .int 0, .int (-1), .int 0, .int (-1), .ref q14, .ref q15]))]) [1] rfl
  have hDc := hD.sub (ws' := [(q1, .inr (7, [.ref q5, .int 0, .ref q6, .ref q7, .ref q8, .ref q9, .ref q10, .ref q11, .ref q12, .ref q13, .int 0, .int (-1), .int 0, .int (-1), .ref q14, .ref q15]))]) [1] (by decide) rfl
  have hKc := hK.sub (tys' := []) [] rfl
  have hFc := va_free (wc := [(q1, .inr (7, [.ref q5, .int 0, .ref q6, .ref q7, .ref q8, .ref q9, .ref q10, .ref q11, .ref q12, .ref q13, .int 0, .int (-1), .int 0, .int (-1), .ref q14, .ref q15]))]) hD hS hA [1] rfl
  refine va_calli (va_runV (As := [.int 0]) (rest := []) ⟨hx, hb, hml, hown, hts⟩ (c_X7_letter_0 l dC dI q1 q5 q6 q7 q8 q9 q10 q11 q12 q13 q14 q15 H.size) (cwV 1 hts (gV m_300 m_301 m_302 m_18 m_299) rfl rfl rfl (by decide +kernel) ⟨Nat.le_of_ble_eq_true rfl, Nat.le_of_ble_eq_true rfl⟩) ⟨q_bl, va_recv hKc hPc (ci := 7) (q0 := 0) rfl rfl, q_pre hPc hKc hDc hE hS hFc⟩ rfl rfl hl.1 rfl (lv_room (Nat.le_of_ble_eq_true rfl)) dX8_scan_46 ⟨Nat.le_of_ble_eq_true rfl, Nat.le_of_ble_eq_true rfl⟩) hS (fun q _ h => hFc q h) hFc (fun r9 u t H1 locs ht hvm hw hB hz1 hk1 hS => ?_)
  obtain ⟨hP1, hK1, hD1⟩ := hB
  rw [ht] at hP1
  have hK1 := va_K.moved hvm.symm hK1
  obtain ⟨hP, hD⟩ := va_join (wr := [(q0, .inr (8, [.ref q1, .ref q2, .ref q3, .ref q4, .int 0, .int 0, .int 1, .int 0, .int 0]))]) (w1 := [(q1, .inr (7, [.ref q5, .int 0, .ref q6, .ref q7, .ref q8, .ref q9, .ref q10, .ref q11, .ref q12, .ref q13, .int 0, .int (-1), .int 0, .int (-1), .ref q14, .ref q15]))]) hP hD [1] [0] rfl rfl (by decide) (by decide) hk1 hFc hP1 hD1
  have hK := (hK.sub (tys' := []) [] rfl).app hK1
  generalize H1 = H at hP hS ⊢
  have hP : va_P (dC, dI) classes [(q0, .inr (8, [.ref q1, .ref q2, .ref q3, .ref q4, .int 0, .int 0, .int 1, .int 0, .int 0])), (q1, .inr (7, [.ref q5, .int 0, .ref q6, .ref q7, .ref q8, .ref q9, .ref q10, .ref q11, .ref q12, .ref q13, .int 0, .int (-1), .int 0, .int (-1), .ref q14, .ref q15]))] H := hP
  have hD : va_D A [(q0, .inr (8, [.ref q1, .ref q2, .ref q3, .ref q4, .int 0, .int 0, .int 1, .int 0, .int 0])), (q1, .inr (7, [.ref q5, .int 0, .ref q6, .ref q7, .ref q8, .ref q9, .ref q10, .ref q11, .ref q12, .ref q13, .int 0, .int (-1), .int 0, .int (-1), .ref q14, .ref q15]))] := hD
  have hK : va_K (dC, dI) classes [] s := hK
  rw [hw]
  refine lv_istore_n (lv' := [(2, .int (-1)), (1, .int 0), (0, .ref q0)]) hx hb dX8_scan_49 rfl hl (by decide) rfl (fun ls hl => ?_)
  refine lv_iload_n hx hb dX8_scan_50 rfl (lv_at hl 0 rfl) ?_
  refine lv_iconst (v := (-1)) hx hb dX8_scan_51 (by decide) ?_
  refine lv_icmp_ne (tgt := 68) hx hb dX8_scan_52 (by decide) (fun c9 => absurd (by decide) c9) (fun _ => ?_)
  refine lv_aload_n hx hb dX8_scan_55 rfl (lv_at hl 2 rfl) ?_
  refine lv_iload_n hx hb dX8_scan_56 rfl (lv_at hl 1 rfl) ?_
  refine va_put (D := (dC, dI)) (ci := 8) (v := .int 0) (ty := .int) (C := RX8) (T := TX8) (N := 9) hx hb hts (fun w h => mc (in_X8 w h)) tyX8 tyX8_ok nmX8 hown hK hP hD hS 0 rfl rfl 8 (by decide) (hts _ (mc m_109)) (fun _ h9 => h9) rfl (by decide +kernel) (by first | rfl | decide) (by first | rfl | decide) (Nat.le_of_ble_eq_true rfl) dX8_scan_57 (fun H locs hP hD hS => ?_)
  have hP : va_P (dC, dI) classes [(q0, .inr (8, [.ref q1, .ref q2, .ref q3, .ref q4, .int 0, .int 0, .int 1, .int 0, .int 0])), (q1, .inr (7, [.ref q5, .int 0, .ref q6, .ref q7, .ref q8, .ref q9, .ref q10, .ref q11, .ref q12, .ref q13, .int 0, .int (-1), .int 0, .int (-1), .ref q14, .ref q15]))] H := hP
  have hD : va_D A [(q0, .inr (8, [.ref q1, .ref q2, .ref q3, .ref q4, .int 0, .int 0, .int 1, .int 0, .int 0])), (q1, .inr (7, [.ref q5, .int 0, .ref q6, .ref q7, .ref q8, .ref q9, .ref q10, .ref q11, .ref q12, .ref q13, .int 0, .int (-1), .int 0, .int (-1), .ref q14, .ref q15]))] := hD
  refine lv_aload_n hx hb dX8_scan_60 rfl (lv_at hl 2 rfl) ?_
  refine lv_iconst (v := 0) hx hb dX8_scan_61 (by decide) ?_
  refine va_put (D := (dC, dI)) (ci := 8) (v := .int 0) (ty := .int) (C := RX8) (T := TX8) (N := 9) hx hb hts (fun w h => mc (in_X8 w h)) tyX8 tyX8_ok nmX8 hown hK hP hD hS 0 rfl rfl 6 (by decide) (hts _ (mc m_107)) (fun _ h9 => h9) rfl (by decide +kernel) (by first | rfl | decide) (by first | rfl | decide) (Nat.le_of_ble_eq_true rfl) dX8_scan_62 (fun H locs hP hD hS => ?_)
  have hP : va_P (dC, dI) classes [(q0, .inr (8, [.ref q1, .ref q2, .ref q3, .ref q4, .int 0, .int 0, .int 0, .int 0, .int 0])), (q1, .inr (7, [.ref q5, .int 0, .ref q6, .ref q7, .ref q8, .ref q9, .ref q10, .ref q11, .ref q12, .ref q13, .int 0, .int (-1), .int 0, .int (-1), .ref q14, .ref q15]))] H := hP
  have hD : va_D A [(q0, .inr (8, [.ref q1, .ref q2, .ref q3, .ref q4, .int 0, .int 0, .int 0, .int 0, .int 0])), (q1, .inr (7, [.ref q5, .int 0, .ref q6, .ref q7, .ref q8, .ref q9, .ref q10, .ref q11, .ref q12, .ref q13, .int 0, .int (-1), .int 0, .int (-1), .ref q14, .ref q15]))] := hD
  refine lv_goto (tgt := 101) hx hb dX8_scan_65 (by decide) ?_
  exact W.vret hx hb hr (fun t ht hW => ⟨⟨(), rfl, trivial, by rw [ht]; exact hP, va_K.moved hW.alike hK, hD⟩, hS.F ht⟩) hS.2.2 dX8_scan_101
set_option maxHeartbeats 4000000 in
set_option maxRecDepth 100000 in
theorem c_X11_put_7 (l : Launch) (dC : Nat → ClassId) (dI : Nat → Nat → Nat) (q0 : Nat) (k0 : ClassId) (sz : Nat) : Met l yX11_put (.code yX11_put cX11_put 3 none :: bigW) { frames := 0, cells := 0, slots := 0, locals := 0 } (va_Pc [.ref q0, .int 0, .int 0] (q_In dC dI [(q0, .inl (k0, 3001, .inl (fun _ => 0)))] [(k0, .int)] sz)) (va_Qv (fun _ : Unit => True) (fun _ t => va_P (dC, dI) classes [(q0, .inl (k0, 3001, .inl (upd (fun _ => 0) 0 0)))] t.heap ∧ va_K (dC, dI) classes [(k0, .int)] t ∧ va_D (va_A [(q0, .inl (k0, 3001, .inl (fun _ => 0)))] sz) [(q0, .inl (k0, 3001, .inl (upd (fun _ => 0) 0 0)))]) (va_A [(q0, .inl (k0, 3001, .inl (fun _ => 0)))] sz)) 0 0 (va_A [(q0, .inl (k0, 3001, .inl (fun _ => 0)))] sz) := by
  refine Met.ofW (cc := cX11_put) (maxL := 3) (ret := none) (by decide) rfl ?_
  intro p e s m args below meth c s₁ B hml hv
  obtain ⟨rfl, hsz, hP, hK, hD0, hE⟩ := hv
  have hx := B.exec
  have hb := B.bytes
  have hr := B.returns
  have hts := atoms_spec (ws := .code yX11_put cX11_put 3 none :: bigW) B.pre
  have hown : s.vm.findClass RX11 = some m.cls := findClass_of_methodNamed B.named
  have hlocks := B.notSynchronized
  subst hsz
  have hD := hD0.self (sz := s.heap.size)
  generalize hAe : va_A [(q0, .inl (k0, 3001, .inl (fun _ => 0)))] s.heap.size = A at hD hE ⊢
  have hN : q_N s := hE.2.2.2.1
  have hA : ∀ q : Nat, s.heap.size ≤ q → A q := fun q h => by rw [← hAe]; exact Or.inr h
  have hS : va_S A s.heap s.heap [] := va_S.rf
  have hP : va_P (dC, dI) classes [(q0, .inl (k0, 3001, .inl (fun _ => 0)))] s.heap := hP
  have hl := lv_entry ([.ref q0, .int 0, .int 0]) (n := 3) (Nat.le_of_ble_eq_true rfl)
  rw [lg_entry_eq]
  generalize (lg_sl ([.ref q0, .int 0, .int 0]) ++ List.replicate (3 - (lg_sl ([.ref q0, .int 0, .int 0])).length) Slot.unset).toArray = ls at hl ⊢
  have hl : lv_has ls 3 [(0, .ref q0), (1, .int 0), (2, .int 0)] := hl
  refine lv_iload_n hx hb dX11_put_0 rfl (lv_at hl 1 rfl) ?_
  refine lv_if_lt (tgt := 14) hx hb dX11_put_1 (by decide) (fun c9 => absurd c9 (by decide)) (fun _ => ?_)
  refine lv_iload_n hx hb dX11_put_4 rfl (lv_at hl 1 rfl) ?_
  refine lv_aload_n hx hb dX11_put_5 rfl (lv_at hl 0 rfl) ?_
  refine va_alen (v := 3001) hx hb hK hP 0 0 rfl rfl (by first | rfl | decide) dX11_put_6 ?_
  refine lv_icmp_ge (tgt := 14) hx hb dX11_put_7 (by decide) (fun c9 => absurd c9 (by decide)) (fun _ => ?_)
  refine lv_aload_n hx hb dX11_put_10 rfl (lv_at hl 0 rfl) ?_
  refine lv_iload_n hx hb dX11_put_11 rfl (lv_at hl 1 rfl) ?_
  refine lv_iload_n hx hb dX11_put_12 rfl (lv_at hl 2 rfl) ?_
  refine va_iast hx hb hK hP hD hS 0 0 rfl rfl (by unfold vp_in; decide) dX11_put_13 (fun H locs hP hD hS => ?_)
  have hP : va_P (dC, dI) classes [(q0, .inl (k0, 3001, .inl (upd (fun _ => 0) 0 0)))] H := hP
  have hD : va_D A [(q0, .inl (k0, 3001, .inl (upd (fun _ => 0) 0 0)))] := hD
  exact W.vret hx hb hr (fun t ht hW => ⟨⟨(), rfl, trivial, by rw [ht]; exact hP, va_K.moved hW.alike hK, hD⟩, hS.F ht⟩) hS.2.2 dX11_put_14
set_option maxHeartbeats 4000000 in
set_option maxRecDepth 100000 in
theorem c_X11_at_0 (l : Launch) (dC : Nat → ClassId) (dI : Nat → Nat → Nat) (q0 : Nat) (k0 : ClassId) (sz : Nat) : Met l yX11_at (.code yX11_at cX11_at 2 (some .int) :: bigW) { frames := 0, cells := 0, slots := 0, locals := 0 } (va_Pc [.ref q0, .int 0] (q_In dC dI [(q0, .inl (k0, 3001, .inl (upd (fun _ => 0) 0 0)))] [(k0, .int)] sz)) (va_Qi (fun (r9 : Int32) (_ : Unit) => r9 = 0) (fun _ t => va_P (dC, dI) classes [(q0, .inl (k0, 3001, .inl (upd (fun _ => 0) 0 0)))] t.heap ∧ va_K (dC, dI) classes [(k0, .int)] t ∧ va_D (va_A [(q0, .inl (k0, 3001, .inl (upd (fun _ => 0) 0 0)))] sz) [(q0, .inl (k0, 3001, .inl (upd (fun _ => 0) 0 0)))]) (va_A [(q0, .inl (k0, 3001, .inl (upd (fun _ => 0) 0 0)))] sz)) 0 0 (va_A [(q0, .inl (k0, 3001, .inl (upd (fun _ => 0) 0 0)))] sz) := by
  refine Met.ofW (cc := cX11_at) (maxL := 2) (ret := (some .int)) (by decide) rfl ?_
  intro p e s m args below meth c s₁ B hml hv
  obtain ⟨rfl, hsz, hP, hK, hD0, hE⟩ := hv
  have hx := B.exec
  have hb := B.bytes
  have hr := B.returns
  have hts := atoms_spec (ws := .code yX11_at cX11_at 2 (some .int) :: bigW) B.pre
  have hown : s.vm.findClass RX11 = some m.cls := findClass_of_methodNamed B.named
  have hlocks := B.notSynchronized
  subst hsz
  have hD := hD0.self (sz := s.heap.size)
  generalize hAe : va_A [(q0, .inl (k0, 3001, .inl (upd (fun _ => 0) 0 0)))] s.heap.size = A at hD hE ⊢
  have hN : q_N s := hE.2.2.2.1
  have hA : ∀ q : Nat, s.heap.size ≤ q → A q := fun q h => by rw [← hAe]; exact Or.inr h
  have hS : va_S A s.heap s.heap [] := va_S.rf
  have hP : va_P (dC, dI) classes [(q0, .inl (k0, 3001, .inl (upd (fun _ => 0) 0 0)))] s.heap := hP
  have hl := lv_entry ([.ref q0, .int 0]) (n := 2) (Nat.le_of_ble_eq_true rfl)
  rw [lg_entry_eq]
  generalize (lg_sl ([.ref q0, .int 0]) ++ List.replicate (2 - (lg_sl ([.ref q0, .int 0])).length) Slot.unset).toArray = ls at hl ⊢
  have hl : lv_has ls 2 [(0, .ref q0), (1, .int 0)] := hl
  refine lv_iload_n hx hb dX11_at_0 rfl (lv_at hl 1 rfl) ?_
  refine lv_if_lt (tgt := 16) hx hb dX11_at_1 (by decide) (fun c9 => absurd c9 (by decide)) (fun _ => ?_)
  refine lv_iload_n hx hb dX11_at_4 rfl (lv_at hl 1 rfl) ?_
  refine lv_aload_n hx hb dX11_at_5 rfl (lv_at hl 0 rfl) ?_
  refine va_alen (v := 3001) hx hb hK hP 0 0 rfl rfl (by first | rfl | decide) dX11_at_6 ?_
  refine lv_icmp_ge (tgt := 16) hx hb dX11_at_7 (by decide) (fun c9 => absurd c9 (by decide)) (fun _ => ?_)
  refine lv_aload_n hx hb dX11_at_10 rfl (lv_at hl 0 rfl) ?_
  refine lv_iload_n hx hb dX11_at_11 rfl (lv_at hl 1 rfl) ?_
  refine va_iald hx hb hK hP 0 0 rfl rfl (by unfold vp_in; decide) dX11_at_12 ?_
  refine q_topi 0 (by decide) ?_
  refine lv_goto (tgt := 17) hx hb dX11_at_13 (by decide) ?_
  exact W.iret (v := 0) hx hb hr (fun t ht hW => ⟨⟨0, (), rfl, rfl, by rw [ht]; exact hP, va_K.moved hW.alike hK, hD⟩, hS.F ht⟩) hS.2.2 dX11_at_17
set_option maxHeartbeats 4000000 in
set_option maxRecDepth 100000 in
theorem c_X8_advance_0 (l : Launch) (dC : Nat → ClassId) (dI : Nat → Nat → Nat) (q0 : Nat) (q1 : Nat) (q2 : Nat) (q3 : Nat) (q4 : Nat) (k0 : ClassId) (k1 : ClassId) (k2 : ClassId) (sz : Nat) : Met l yX8_advance (.code yX8_advance cX8_advance 1 none :: bigW) { frames := 1, cells := 0, slots := 0, locals := 21 } (va_Pc [.ref q0] (q_In dC dI [(q0, .inr (8, [.ref q1, .ref q2, .ref q3, .ref q4, .int 1, .int (-1), .int 1, .int 0, .int 0])), (q2, .inl (k0, 3001, .inl (upd (fun _ => 0) 0 0))), (q3, .inl (k1, 3001, .inl (upd (fun _ => 0) 0 0))), (q4, .inl (k2, 3001, .inl (upd (fun _ => 0) 0 0)))] [(k0, .int), (k1, .int), (k2, .int)] sz)) (va_Qv (fun _ : Unit => True) (fun _ t => va_P (dC, dI) classes [(q0, .inr (8, [.ref q1, .ref q2, .ref q3, .ref q4, .int 1, .int 0, .int 0, .int 0, .int 0])), (q2, .inl (k0, 3001, .inl (upd (fun _ => 0) 0 0))), (q3, .inl (k1, 3001, .inl (upd (fun _ => 0) 0 0))), (q4, .inl (k2, 3001, .inl (upd (fun _ => 0) 0 0)))] t.heap ∧ va_K (dC, dI) classes [(k0, .int), (k1, .int), (k2, .int)] t ∧ va_D (va_A [(q0, .inr (8, [.ref q1, .ref q2, .ref q3, .ref q4, .int 1, .int (-1), .int 1, .int 0, .int 0])), (q2, .inl (k0, 3001, .inl (upd (fun _ => 0) 0 0))), (q3, .inl (k1, 3001, .inl (upd (fun _ => 0) 0 0))), (q4, .inl (k2, 3001, .inl (upd (fun _ => 0) 0 0)))] sz) [(q0, .inr (8, [.ref q1, .ref q2, .ref q3, .ref q4, .int 1, .int 0, .int 0, .int 0, .int 0])), (q2, .inl (k0, 3001, .inl (upd (fun _ => 0) 0 0))), (q3, .inl (k1, 3001, .inl (upd (fun _ => 0) 0 0))), (q4, .inl (k2, 3001, .inl (upd (fun _ => 0) 0 0)))]) (va_A [(q0, .inr (8, [.ref q1, .ref q2, .ref q3, .ref q4, .int 1, .int (-1), .int 1, .int 0, .int 0])), (q2, .inl (k0, 3001, .inl (upd (fun _ => 0) 0 0))), (q3, .inl (k1, 3001, .inl (upd (fun _ => 0) 0 0))), (q4, .inl (k2, 3001, .inl (upd (fun _ => 0) 0 0)))] sz)) 0 0 (va_A [(q0, .inr (8, [.ref q1, .ref q2, .ref q3, .ref q4, .int 1, .int (-1), .int 1, .int 0, .int 0])), (q2, .inl (k0, 3001, .inl (upd (fun _ => 0) 0 0))), (q3, .inl (k1, 3001, .inl (upd (fun _ => 0) 0 0))), (q4, .inl (k2, 3001, .inl (upd (fun _ => 0) 0 0)))] sz) := by
  refine Met.ofW (cc := cX8_advance) (maxL := 1) (ret := none) (by decide) rfl ?_
  intro p e s m args below meth c s₁ B hml hv
  obtain ⟨rfl, hsz, hP, hK, hD0, hE⟩ := hv
  have hx := B.exec
  have hb := B.bytes
  have hr := B.returns
  have hts := atoms_spec (ws := .code yX8_advance cX8_advance 1 none :: bigW) B.pre
  have hown : s.vm.findClass RX8 = some m.cls := findClass_of_methodNamed B.named
  have hlocks := B.notSynchronized
  subst hsz
  have hD := hD0.self (sz := s.heap.size)
  generalize hAe : va_A [(q0, .inr (8, [.ref q1, .ref q2, .ref q3, .ref q4, .int 1, .int (-1), .int 1, .int 0, .int 0])), (q2, .inl (k0, 3001, .inl (upd (fun _ => 0) 0 0))), (q3, .inl (k1, 3001, .inl (upd (fun _ => 0) 0 0))), (q4, .inl (k2, 3001, .inl (upd (fun _ => 0) 0 0)))] s.heap.size = A at hD hE ⊢
  have hN : q_N s := hE.2.2.2.1
  have hA : ∀ q : Nat, s.heap.size ≤ q → A q := fun q h => by rw [← hAe]; exact Or.inr h
  have hS : va_S A s.heap s.heap [] := va_S.rf
  have hP : va_P (dC, dI) classes [(q0, .inr (8, [.ref q1, .ref q2, .ref q3, .ref q4, .int 1, .int (-1), .int 1, .int 0, .int 0])), (q2, .inl (k0, 3001, .inl (upd (fun _ => 0) 0 0))), (q3, .inl (k1, 3001, .inl (upd (fun _ => 0) 0 0))), (q4, .inl (k2, 3001, .inl (upd (fun _ => 0) 0 0)))] s.heap := hP
  have hl := lv_entry ([.ref q0]) (n := 1) (Nat.le_of_ble_eq_true rfl)
  rw [lg_entry_eq]
  generalize (lg_sl ([.ref q0]) ++ List.replicate (1 - (lg_sl ([.ref q0])).length) Slot.unset).toArray = ls at hl ⊢
  have hl : lv_has ls 1 [(0, .ref q0)] := hl
  refine lv_aload_n hx hb dX8_advance_0 rfl (lv_at hl 0 rfl) ?_
  refine va_get (D := (dC, dI)) (ci := 8) (v := .int 1) (C := RX8) (T := TX8) (N := 9) hx hb hts (fun w h => mc (in_X8 w h)) hown hK hP 0 rfl rfl 6 (by decide) (hts _ (mc m_107)) (fun _ h9 => h9) rfl dX8_advance_1 ?_
  refine lv_iconst (v := 2) hx hb dX8_advance_4 (by decide) ?_
  refine lv_icmp_eq (tgt := 76) hx hb dX8_advance_5 (by decide) (fun c9 => absurd c9 (by decide)) (fun _ => ?_)
  refine lv_aload_n hx hb dX8_advance_8 rfl (lv_at hl 0 rfl) ?_
  refine va_get (D := (dC, dI)) (ci := 8) (v := .int (-1)) (C := RX8) (T := TX8) (N := 9) hx hb hts (fun w h => mc (in_X8 w h)) hown hK hP 0 rfl rfl 5 (by decide) (hts _ (mc m_106)) (fun _ h9 => h9) rfl dX8_advance_9 ?_
  refine lv_aload_n hx hb dX8_advance_12 rfl (lv_at hl 0 rfl) ?_
  refine va_get (D := (dC, dI)) (ci := 8) (v := .int 1) (C := RX8) (T := TX8) (N := 9) hx hb hts (fun w h => mc (in_X8 w h)) hown hK hP 0 rfl rfl 4 (by decide) (hts _ (mc m_105)) (fun _ h9 => h9) rfl dX8_advance_13 ?_
  refine lv_iconst (v := 1) hx hb dX8_advance_16 (by decide) ?_
  refine lv_isub hx hb dX8_advance_17 ?_
  refine q_topi 0 (by decide) ?_
  refine lv_icmp_ge (tgt := 76) hx hb dX8_advance_18 (by decide) (fun c9 => absurd c9 (by decide)) (fun _ => ?_)
  refine lv_aload_n hx hb dX8_advance_21 rfl (lv_at hl 0 rfl) ?_
  refine lv_dup hx hb dX8_advance_22 rfl ?_
  refine va_get (D := (dC, dI)) (ci := 8) (v := .int (-1)) (C := RX8) (T := TX8) (N := 9) hx hb hts (fun w h => mc (in_X8 w h)) hown hK hP 0 rfl rfl 5 (by decide) (hts _ (mc m_106)) (fun _ h9 => h9) rfl dX8_advance_23 ?_
  refine lv_iconst (v := 1) hx hb dX8_advance_26 (by decide) ?_
  refine lv_iadd hx hb dX8_advance_27 ?_
  refine q_topi 0 (by decide) ?_
  refine va_put (D := (dC, dI)) (ci := 8) (v := .int 0) (ty := .int) (C := RX8) (T := TX8) (N := 9) hx hb hts (fun w h => mc (in_X8 w h)) tyX8 tyX8_ok nmX8 hown hK hP hD hS 0 rfl rfl 5 (by decide) (hts _ (mc m_106)) (fun _ h9 => h9) rfl (by decide +kernel) (by first | rfl | decide) (by first | rfl | decide) (Nat.le_of_ble_eq_true rfl) dX8_advance_28 (fun H locs hP hD hS => ?_)
  have hP : va_P (dC, dI) classes [(q0, .inr (8, [.ref q1, .ref q2, .ref q3, .ref q4, .int 1, .int 0, .int 1, .int 0, .int 0])), (q2, .inl (k0, 3001, .inl (upd (fun _ => 0) 0 0))), (q3, .inl (k1, 3001, .inl (upd (fun _ => 0) 0 0))), (q4, .inl (k2, 3001, .inl (upd (fun _ => 0) 0 0)))] H := hP
  have hD : va_D A [(q0, .inr (8, [.ref q1, .ref q2, .ref q3, .ref q4, .int 1, .int 0, .int 1, .int 0, .int 0])), (q2, .inl (k0, 3001, .inl (upd (fun _ => 0) 0 0))), (q3, .inl (k1, 3001, .inl (upd (fun _ => 0) 0 0))), (q4, .inl (k2, 3001, .inl (upd (fun _ => 0) 0 0)))] := hD
  refine lv_aload_n hx hb dX8_advance_31 rfl (lv_at hl 0 rfl) ?_
  refine lv_aload_n hx hb dX8_advance_32 rfl (lv_at hl 0 rfl) ?_
  refine va_get (D := (dC, dI)) (ci := 8) (v := .ref q2) (C := RX8) (T := TX8) (N := 9) hx hb hts (fun w h => mc (in_X8 w h)) hown hK hP 0 rfl rfl 1 (by decide) (hts _ (mc m_102)) (fun _ h9 => h9) rfl dX8_advance_33 ?_
  refine lv_aload_n hx hb dX8_advance_36 rfl (lv_at hl 0 rfl) ?_
  refine va_get (D := (dC, dI)) (ci := 8) (v := .int 0) (C := RX8) (T := TX8) (N := 9) hx hb hts (fun w h => mc (in_X8 w h)) hown hK hP 0 rfl rfl 5 (by decide) (hts _ (mc m_106)) (fun _ h9 => h9) rfl dX8_advance_37 ?_
  have hPc := hP.sub (ws' := [(q2, .inl (k0, 3001, .inl (upd (fun _ => 0) 0 0)))]) [1] rfl
  have hDc := hD.sub (ws' := [(q2, .inl (k0, 3001, .inl (upd (fun _ => 0) 0 0)))]) [1] (by decide) rfl
  have hKc := hK.sub (tys' := [(k0, .int)]) [0] rfl
  have hFc := va_free (wc := [(q2, .inl (k0, 3001, .inl (upd (fun _ => 0) 0 0)))]) hD hS hA [1] rfl
  refine va_calli (va_runSN (As := [.ref q2, .int 0]) (rest := [.ref q0]) ⟨hx, hb, hml, hown, hts⟩ (c_X11_at_0 l dC dI q2 k0 H.size) ⟨va_cnB 2 hts (gI m_307) rfl rfl rfl (hN (RX8, 57, yX11_at, RX11) (List.mem_of_getElem? (i := 9) rfl)) (hts _ (mc m_251)) (by decide +kernel) ⟨Nat.le_of_ble_eq_true rfl, Nat.le_of_ble_eq_true rfl⟩, (hts _ (mc m_308)), trivial⟩ ⟨q_bl, q_pre hPc hKc hDc hE hS hFc⟩ rfl rfl hl.1 rfl (lv_room (Nat.le_of_ble_eq_true rfl)) dX8_advance_40 ⟨Nat.le_of_ble_eq_true rfl, Nat.le_of_ble_eq_true rfl⟩) hS (fun q _ h => hFc q h) hFc (fun r9 u t H1 locs ht hvm hw hB hz1 hk1 hS => ?_)
  obtain ⟨hP1, hK1, hD1⟩ := hB
  rw [ht] at hP1
  have hK1 := va_K.moved hvm.symm hK1
  obtain ⟨hP, hD⟩ := va_join (wr := [(q0, .inr (8, [.ref q1, .ref q2, .ref q3, .ref q4, .int 1, .int 0, .int 1, .int 0, .int 0])), (q3, .inl (k1, 3001, .inl (upd (fun _ => 0) 0 0))), (q4, .inl (k2, 3001, .inl (upd (fun _ => 0) 0 0)))]) (w1 := [(q2, .inl (k0, 3001, .inl (upd (fun _ => 0) 0 0)))]) hP hD [1] [0, 2, 3] rfl rfl (by decide) (by decide) hk1 hFc hP1 hD1
  have hK := (hK.sub (tys' := [(k1, .int), (k2, .int)]) [1, 2] rfl).app hK1
  generalize H1 = H at hP hS ⊢
  have hP : va_P (dC, dI) classes [(q0, .inr (8, [.ref q1, .ref q2, .ref q3, .ref q4, .int 1, .int 0, .int 1, .int 0, .int 0])), (q3, .inl (k1, 3001, .inl (upd (fun _ => 0) 0 0))), (q4, .inl (k2, 3001, .inl (upd (fun _ => 0) 0 0))), (q2, .inl (k0, 3001, .inl (upd (fun _ => 0) 0 0)))] H := hP
  have hD : va_D A [(q0, .inr (8, [.ref q1, .ref q2, .ref q3, .ref q4, .int 1, .int 0, .int 1, .int 0, .int 0])), (q3, .inl (k1, 3001, .inl (upd (fun _ => 0) 0 0))), (q4, .inl (k2, 3001, .inl (upd (fun _ => 0) 0 0))), (q2, .inl (k0, 3001, .inl (upd (fun _ => 0) 0 0)))] := hD
  have hK : va_K (dC, dI) classes [(k1, .int), (k2, .int), (k0, .int)] s := hK
  rw [hw]
  refine va_put (D := (dC, dI)) (ci := 8) (v := .int 0) (ty := .int) (C := RX8) (T := TX8) (N := 9) hx hb hts (fun w h => mc (in_X8 w h)) tyX8 tyX8_ok nmX8 hown hK hP hD hS 0 rfl rfl 6 (by decide) (hts _ (mc m_107)) (fun _ h9 => h9) rfl (by decide +kernel) (by first | rfl | decide) (by first | rfl | decide) (Nat.le_of_ble_eq_true rfl) dX8_advance_43 (fun H locs hP hD hS => ?_)
  have hP : va_P (dC, dI) classes [(q0, .inr (8, [.ref q1, .ref q2, .ref q3, .ref q4, .int 1, .int 0, .int 0, .int 0, .int 0])), (q3, .inl (k1, 3001, .inl (upd (fun _ => 0) 0 0))), (q4, .inl (k2, 3001, .inl (upd (fun _ => 0) 0 0))), (q2, .inl (k0, 3001, .inl (upd (fun _ => 0) 0 0)))] H := hP
  have hD : va_D A [(q0, .inr (8, [.ref q1, .ref q2, .ref q3, .ref q4, .int 1, .int 0, .int 0, .int 0, .int 0])), (q3, .inl (k1, 3001, .inl (upd (fun _ => 0) 0 0))), (q4, .inl (k2, 3001, .inl (upd (fun _ => 0) 0 0))), (q2, .inl (k0, 3001, .inl (upd (fun _ => 0) 0 0)))] := hD
  refine lv_aload_n hx hb dX8_advance_46 rfl (lv_at hl 0 rfl) ?_
  refine lv_aload_n hx hb dX8_advance_47 rfl (lv_at hl 0 rfl) ?_
  refine va_get (D := (dC, dI)) (ci := 8) (v := .ref q3) (C := RX8) (T := TX8) (N := 9) hx hb hts (fun w h => mc (in_X8 w h)) hown hK hP 0 rfl rfl 2 (by decide) (hts _ (mc m_103)) (fun _ h9 => h9) rfl dX8_advance_48 ?_
  refine lv_aload_n hx hb dX8_advance_51 rfl (lv_at hl 0 rfl) ?_
  refine va_get (D := (dC, dI)) (ci := 8) (v := .int 0) (C := RX8) (T := TX8) (N := 9) hx hb hts (fun w h => mc (in_X8 w h)) hown hK hP 0 rfl rfl 5 (by decide) (hts _ (mc m_106)) (fun _ h9 => h9) rfl dX8_advance_52 ?_
  have hPc := hP.sub (ws' := [(q3, .inl (k1, 3001, .inl (upd (fun _ => 0) 0 0)))]) [1] rfl
  have hDc := hD.sub (ws' := [(q3, .inl (k1, 3001, .inl (upd (fun _ => 0) 0 0)))]) [1] (by decide) rfl
  have hKc := hK.sub (tys' := [(k1, .int)]) [0] rfl
  have hFc := va_free (wc := [(q3, .inl (k1, 3001, .inl (upd (fun _ => 0) 0 0)))]) hD hS hA [1] rfl
  refine va_calli (va_runSN (As := [.ref q3, .int 0]) (rest := [.ref q0]) ⟨hx, hb, hml, hown, hts⟩ (c_X11_at_0 l dC dI q3 k1 H.size) ⟨va_cnB 2 hts (gI m_307) rfl rfl rfl (hN (RX8, 57, yX11_at, RX11) (List.mem_of_getElem? (i := 9) rfl)) (hts _ (mc m_251)) (by decide +kernel) ⟨Nat.le_of_ble_eq_true rfl, Nat.le_of_ble_eq_true rfl⟩, (hts _ (mc m_308)), trivial⟩ ⟨q_bl, q_pre hPc hKc hDc hE hS hFc⟩ rfl rfl hl.1 rfl (lv_room (Nat.le_of_ble_eq_true rfl)) dX8_advance_55 ⟨Nat.le_of_ble_eq_true rfl, Nat.le_of_ble_eq_true rfl⟩) hS (fun q _ h => hFc q h) hFc (fun r9 u t H1 locs ht hvm hw hB hz1 hk1 hS => ?_)
  obtain ⟨hP1, hK1, hD1⟩ := hB
  rw [ht] at hP1
  have hK1 := va_K.moved hvm.symm hK1
  obtain ⟨hP, hD⟩ := va_join (wr := [(q0, .inr (8, [.ref q1, .ref q2, .ref q3, .ref q4, .int 1, .int 0, .int 0, .int 0, .int 0])), (q4, .inl (k2, 3001, .inl (upd (fun _ => 0) 0 0))), (q2, .inl (k0, 3001, .inl (upd (fun _ => 0) 0 0)))]) (w1 := [(q3, .inl (k1, 3001, .inl (upd (fun _ => 0) 0 0)))]) hP hD [1] [0, 2, 3] rfl rfl (by decide) (by decide) hk1 hFc hP1 hD1
  have hK := (hK.sub (tys' := [(k2, .int), (k0, .int)]) [1, 2] rfl).app hK1
  generalize H1 = H at hP hS ⊢
  have hP : va_P (dC, dI) classes [(q0, .inr (8, [.ref q1, .ref q2, .ref q3, .ref q4, .int 1, .int 0, .int 0, .int 0, .int 0])), (q4, .inl (k2, 3001, .inl (upd (fun _ => 0) 0 0))), (q2, .inl (k0, 3001, .inl (upd (fun _ => 0) 0 0))), (q3, .inl (k1, 3001, .inl (upd (fun _ => 0) 0 0)))] H := hP
  have hD : va_D A [(q0, .inr (8, [.ref q1, .ref q2, .ref q3, .ref q4, .int 1, .int 0, .int 0, .int 0, .int 0])), (q4, .inl (k2, 3001, .inl (upd (fun _ => 0) 0 0))), (q2, .inl (k0, 3001, .inl (upd (fun _ => 0) 0 0))), (q3, .inl (k1, 3001, .inl (upd (fun _ => 0) 0 0)))] := hD
  have hK : va_K (dC, dI) classes [(k2, .int), (k0, .int), (k1, .int)] s := hK
  rw [hw]
  refine va_put (D := (dC, dI)) (ci := 8) (v := .int 0) (ty := .int) (C := RX8) (T := TX8) (N := 9) hx hb hts (fun w h => mc (in_X8 w h)) tyX8 tyX8_ok nmX8 hown hK hP hD hS 0 rfl rfl 7 (by decide) (hts _ (mc m_108)) (fun _ h9 => h9) rfl (by decide +kernel) (by first | rfl | decide) (by first | rfl | decide) (Nat.le_of_ble_eq_true rfl) dX8_advance_58 (fun H locs hP hD hS => ?_)
  have hP : va_P (dC, dI) classes [(q0, .inr (8, [.ref q1, .ref q2, .ref q3, .ref q4, .int 1, .int 0, .int 0, .int 0, .int 0])), (q4, .inl (k2, 3001, .inl (upd (fun _ => 0) 0 0))), (q2, .inl (k0, 3001, .inl (upd (fun _ => 0) 0 0))), (q3, .inl (k1, 3001, .inl (upd (fun _ => 0) 0 0)))] H := hP
  have hD : va_D A [(q0, .inr (8, [.ref q1, .ref q2, .ref q3, .ref q4, .int 1, .int 0, .int 0, .int 0, .int 0])), (q4, .inl (k2, 3001, .inl (upd (fun _ => 0) 0 0))), (q2, .inl (k0, 3001, .inl (upd (fun _ => 0) 0 0))), (q3, .inl (k1, 3001, .inl (upd (fun _ => 0) 0 0)))] := hD
  refine lv_aload_n hx hb dX8_advance_61 rfl (lv_at hl 0 rfl) ?_
  refine lv_aload_n hx hb dX8_advance_62 rfl (lv_at hl 0 rfl) ?_
  refine va_get (D := (dC, dI)) (ci := 8) (v := .ref q4) (C := RX8) (T := TX8) (N := 9) hx hb hts (fun w h => mc (in_X8 w h)) hown hK hP 0 rfl rfl 3 (by decide) (hts _ (mc m_104)) (fun _ h9 => h9) rfl dX8_advance_63 ?_
  refine lv_aload_n hx hb dX8_advance_66 rfl (lv_at hl 0 rfl) ?_
  refine va_get (D := (dC, dI)) (ci := 8) (v := .int 0) (C := RX8) (T := TX8) (N := 9) hx hb hts (fun w h => mc (in_X8 w h)) hown hK hP 0 rfl rfl 5 (by decide) (hts _ (mc m_106)) (fun _ h9 => h9) rfl dX8_advance_67 ?_
  have hPc := hP.sub (ws' := [(q4, .inl (k2, 3001, .inl (upd (fun _ => 0) 0 0)))]) [1] rfl
  have hDc := hD.sub (ws' := [(q4, .inl (k2, 3001, .inl (upd (fun _ => 0) 0 0)))]) [1] (by decide) rfl
  have hKc := hK.sub (tys' := [(k2, .int)]) [0] rfl
  have hFc := va_free (wc := [(q4, .inl (k2, 3001, .inl (upd (fun _ => 0) 0 0)))]) hD hS hA [1] rfl
  refine va_calli (va_runSN (As := [.ref q4, .int 0]) (rest := [.ref q0]) ⟨hx, hb, hml, hown, hts⟩ (c_X11_at_0 l dC dI q4 k2 H.size) ⟨va_cnB 2 hts (gI m_307) rfl rfl rfl (hN (RX8, 57, yX11_at, RX11) (List.mem_of_getElem? (i := 9) rfl)) (hts _ (mc m_251)) (by decide +kernel) ⟨Nat.le_of_ble_eq_true rfl, Nat.le_of_ble_eq_true rfl⟩, (hts _ (mc m_308)), trivial⟩ ⟨q_bl, q_pre hPc hKc hDc hE hS hFc⟩ rfl rfl hl.1 rfl (lv_room (Nat.le_of_ble_eq_true rfl)) dX8_advance_70 ⟨Nat.le_of_ble_eq_true rfl, Nat.le_of_ble_eq_true rfl⟩) hS (fun q _ h => hFc q h) hFc (fun r9 u t H1 locs ht hvm hw hB hz1 hk1 hS => ?_)
  obtain ⟨hP1, hK1, hD1⟩ := hB
  rw [ht] at hP1
  have hK1 := va_K.moved hvm.symm hK1
  obtain ⟨hP, hD⟩ := va_join (wr := [(q0, .inr (8, [.ref q1, .ref q2, .ref q3, .ref q4, .int 1, .int 0, .int 0, .int 0, .int 0])), (q2, .inl (k0, 3001, .inl (upd (fun _ => 0) 0 0))), (q3, .inl (k1, 3001, .inl (upd (fun _ => 0) 0 0)))]) (w1 := [(q4, .inl (k2, 3001, .inl (upd (fun _ => 0) 0 0)))]) hP hD [1] [0, 2, 3] rfl rfl (by decide) (by decide) hk1 hFc hP1 hD1
  have hK := (hK.sub (tys' := [(k0, .int), (k1, .int)]) [1, 2] rfl).app hK1
  generalize H1 = H at hP hS ⊢
  have hP : va_P (dC, dI) classes [(q0, .inr (8, [.ref q1, .ref q2, .ref q3, .ref q4, .int 1, .int 0, .int 0, .int 0, .int 0])), (q2, .inl (k0, 3001, .inl (upd (fun _ => 0) 0 0))), (q3, .inl (k1, 3001, .inl (upd (fun _ => 0) 0 0))), (q4, .inl (k2, 3001, .inl (upd (fun _ => 0) 0 0)))] H := hP
  have hD : va_D A [(q0, .inr (8, [.ref q1, .ref q2, .ref q3, .ref q4, .int 1, .int 0, .int 0, .int 0, .int 0])), (q2, .inl (k0, 3001, .inl (upd (fun _ => 0) 0 0))), (q3, .inl (k1, 3001, .inl (upd (fun _ => 0) 0 0))), (q4, .inl (k2, 3001, .inl (upd (fun _ => 0) 0 0)))] := hD
  have hK : va_K (dC, dI) classes [(k0, .int), (k1, .int), (k2, .int)] s := hK
  rw [hw]
  refine va_put (D := (dC, dI)) (ci := 8) (v := .int 0) (ty := .int) (C := RX8) (T := TX8) (N := 9) hx hb hts (fun w h => mc (in_X8 w h)) tyX8 tyX8_ok nmX8 hown hK hP hD hS 0 rfl rfl 8 (by decide) (hts _ (mc m_109)) (fun _ h9 => h9) rfl (by decide +kernel) (by first | rfl | decide) (by first | rfl | decide) (Nat.le_of_ble_eq_true rfl) dX8_advance_73 (fun H locs hP hD hS => ?_)
  have hP : va_P (dC, dI) classes [(q0, .inr (8, [.ref q1, .ref q2, .ref q3, .ref q4, .int 1, .int 0, .int 0, .int 0, .int 0])), (q2, .inl (k0, 3001, .inl (upd (fun _ => 0) 0 0))), (q3, .inl (k1, 3001, .inl (upd (fun _ => 0) 0 0))), (q4, .inl (k2, 3001, .inl (upd (fun _ => 0) 0 0)))] H := hP
  have hD : va_D A [(q0, .inr (8, [.ref q1, .ref q2, .ref q3, .ref q4, .int 1, .int 0, .int 0, .int 0, .int 0])), (q2, .inl (k0, 3001, .inl (upd (fun _ => 0) 0 0))), (q3, .inl (k1, 3001, .inl (upd (fun _ => 0) 0 0))), (q4, .inl (k2, 3001, .inl (upd (fun _ => 0) 0 0)))] := hD
  exact W.vret hx hb hr (fun t ht hW => ⟨⟨(), rfl, trivial, by rw [ht]; exact hP, va_K.moved hW.alike hK, hD⟩, hS.F ht⟩) hS.2.2 dX8_advance_76
set_option maxHeartbeats 4000000 in
set_option maxRecDepth 100000 in
theorem c_X8_open_0 (l : Launch) (dC : Nat → ClassId) (dI : Nat → Nat → Nat) (q0 : Nat) (q1 : Nat) (q2 : Nat) (q3 : Nat) (q4 : Nat) (q5 : Nat) (k0 : ClassId) (k1 : ClassId) (k2 : ClassId) (q6 : Nat) (q7 : Nat) (q8 : Nat) (q9 : Nat) (q10 : Nat) (q11 : Nat) (q12 : Nat) (q13 : Nat) (q14 : Nat) (q15 : Nat) (q16 : Nat) (sz : Nat) : Met l yX8_open (.code yX8_open cX8_open 3 none :: bigW) { frames := 2, cells := 0, slots := 0, locals := 43 } (va_Pc [.ref q0, .ref q1] (q_In dC dI [(q0, .inr (8, [.ref q2, .ref q3, .ref q4, .ref q5, .int 0, .int 0, .int 0, .int 0, .int 0])), (q3, .inl (k0, 3001, .inl (fun _ => 0))), (q4, .inl (k1, 3001, .inl (fun _ => 0))), (q5, .inl (k2, 3001, .inl (fun _ => 0))), (q1, .inr (7, [.ref q6, .int 0, .ref q7, .ref q8, .ref q9, .ref q10, .ref q11, .ref q12, .ref q13, .ref q14, .int 0, .int (-1), .int 0, .int (-1), .ref q15, .ref q16]))] [(k0, .int), (k1, .int), (k2, .int)] sz)) (va_Qv (fun _ : Unit => True) (fun _ t => va_P (dC, dI) classes [(q1, .inr (7, [.ref q6, .int 0, .ref q7, .ref q8, .ref q9, .ref q10, .ref q11, .ref q12, .ref q13, .ref q14, .int 0, .int (-1), .int 0, .int (-1), .ref q15, .ref q16])), (q0, .inr (8, [.ref q1, .ref q3, .ref q4, .ref q5, .int 1, .int 0, .int 0, .int 0, .int 0])), (q3, .inl (k0, 3001, .inl (upd (fun _ => 0) 0 0))), (q4, .inl (k1, 3001, .inl (upd (fun _ => 0) 0 0))), (q5, .inl (k2, 3001, .inl (upd (fun _ => 0) 0 0)))] t.heap ∧ va_K (dC, dI) classes [(k0, .int), (k1, .int), (k2, .int)] t ∧ va_D (va_A [(q0, .inr (8, [.ref q2, .ref q3, .ref q4, .ref q5, .int 0, .int 0, .int 0, .int 0, .int 0])), (q3, .inl (k0, 3001, .inl (fun _ => 0))), (q4, .inl (k1, 3001, .inl (fun _ => 0))), (q5, .inl (k2, 3001, .inl (fun _ => 0))), (q1, .inr (7, [.ref q6, .int 0, .ref q7, .ref q8, .ref q9, .ref q10, .ref q11, .ref q12, .ref q13, .ref q14, .int 0, .int (-1), .int 0, .int (-1), .ref q15, .ref q16]))] sz) [(q1, .inr (7, [.ref q6, .int 0, .ref q7, .ref q8, .ref q9, .ref q10, .ref q11, .ref q12, .ref q13, .ref q14, .int 0, .int (-1), .int 0, .int (-1), .ref q15, .ref q16])), (q0, .inr (8, [.ref q1, .ref q3, .ref q4, .ref q5, .int 1, .int 0, .int 0, .int 0, .int 0])), (q3, .inl (k0, 3001, .inl (upd (fun _ => 0) 0 0))), (q4, .inl (k1, 3001, .inl (upd (fun _ => 0) 0 0))), (q5, .inl (k2, 3001, .inl (upd (fun _ => 0) 0 0)))]) (va_A [(q0, .inr (8, [.ref q2, .ref q3, .ref q4, .ref q5, .int 0, .int 0, .int 0, .int 0, .int 0])), (q3, .inl (k0, 3001, .inl (fun _ => 0))), (q4, .inl (k1, 3001, .inl (fun _ => 0))), (q5, .inl (k2, 3001, .inl (fun _ => 0))), (q1, .inr (7, [.ref q6, .int 0, .ref q7, .ref q8, .ref q9, .ref q10, .ref q11, .ref q12, .ref q13, .ref q14, .int 0, .int (-1), .int 0, .int (-1), .ref q15, .ref q16]))] sz)) 0 0 (va_A [(q0, .inr (8, [.ref q2, .ref q3, .ref q4, .ref q5, .int 0, .int 0, .int 0, .int 0, .int 0])), (q3, .inl (k0, 3001, .inl (fun _ => 0))), (q4, .inl (k1, 3001, .inl (fun _ => 0))), (q5, .inl (k2, 3001, .inl (fun _ => 0))), (q1, .inr (7, [.ref q6, .int 0, .ref q7, .ref q8, .ref q9, .ref q10, .ref q11, .ref q12, .ref q13, .ref q14, .int 0, .int (-1), .int 0, .int (-1), .ref q15, .ref q16]))] sz) := by
  refine Met.ofW (cc := cX8_open) (maxL := 3) (ret := none) (by decide) rfl ?_
  intro p e s m args below meth c s₁ B hml hv
  obtain ⟨rfl, hsz, hP, hK, hD0, hE⟩ := hv
  have hx := B.exec
  have hb := B.bytes
  have hr := B.returns
  have hts := atoms_spec (ws := .code yX8_open cX8_open 3 none :: bigW) B.pre
  have hown : s.vm.findClass RX8 = some m.cls := findClass_of_methodNamed B.named
  have hlocks := B.notSynchronized
  subst hsz
  have hD := hD0.self (sz := s.heap.size)
  generalize hAe : va_A [(q0, .inr (8, [.ref q2, .ref q3, .ref q4, .ref q5, .int 0, .int 0, .int 0, .int 0, .int 0])), (q3, .inl (k0, 3001, .inl (fun _ => 0))), (q4, .inl (k1, 3001, .inl (fun _ => 0))), (q5, .inl (k2, 3001, .inl (fun _ => 0))), (q1, .inr (7, [.ref q6, .int 0, .ref q7, .ref q8, .ref q9, .ref q10, .ref q11, .ref q12, .ref q13, .ref q14, .int 0, .int (-1), .int 0, .int (-1), .ref q15, .ref q16]))] s.heap.size = A at hD hE ⊢
  have hN : q_N s := hE.2.2.2.1
  have hA : ∀ q : Nat, s.heap.size ≤ q → A q := fun q h => by rw [← hAe]; exact Or.inr h
  have hS : va_S A s.heap s.heap [] := va_S.rf
  have hP : va_P (dC, dI) classes [(q0, .inr (8, [.ref q2, .ref q3, .ref q4, .ref q5, .int 0, .int 0, .int 0, .int 0, .int 0])), (q3, .inl (k0, 3001, .inl (fun _ => 0))), (q4, .inl (k1, 3001, .inl (fun _ => 0))), (q5, .inl (k2, 3001, .inl (fun _ => 0))), (q1, .inr (7, [.ref q6, .int 0, .ref q7, .ref q8, .ref q9, .ref q10, .ref q11, .ref q12, .ref q13, .ref q14, .int 0, .int (-1), .int 0, .int (-1), .ref q15, .ref q16]))] s.heap := hP
  have hl := lv_entry ([.ref q0, .ref q1]) (n := 3) (Nat.le_of_ble_eq_true rfl)
  rw [lg_entry_eq]
  generalize (lg_sl ([.ref q0, .ref q1]) ++ List.replicate (3 - (lg_sl ([.ref q0, .ref q1])).length) Slot.unset).toArray = ls at hl ⊢
  have hl : lv_has ls 3 [(0, .ref q0), (1, .ref q1)] := hl
  refine lv_aload_n hx hb dX8_open_0 rfl (lv_at hl 0 rfl) ?_
  refine lv_aload_n hx hb dX8_open_1 rfl (lv_at hl 1 rfl) ?_
  refine va_put (D := (dC, dI)) (ci := 8) (v := .ref q1) (ty := .object "ThreeMills$Program") (C := RX8) (T := TX8) (N := 9) hx hb hts (fun w h => mc (in_X8 w h)) tyX8 tyX8_ok nmX8 hown hK hP hD hS 0 rfl rfl 0 (by decide) (hts _ (mc m_101)) (fun _ h9 => h9) rfl (by decide +kernel) (by first | rfl | decide) (by first | rfl | decide) (Nat.le_of_ble_eq_true rfl) dX8_open_2 (fun H locs hP hD hS => ?_)
  have hP : va_P (dC, dI) classes [(q0, .inr (8, [.ref q1, .ref q3, .ref q4, .ref q5, .int 0, .int 0, .int 0, .int 0, .int 0])), (q3, .inl (k0, 3001, .inl (fun _ => 0))), (q4, .inl (k1, 3001, .inl (fun _ => 0))), (q5, .inl (k2, 3001, .inl (fun _ => 0))), (q1, .inr (7, [.ref q6, .int 0, .ref q7, .ref q8, .ref q9, .ref q10, .ref q11, .ref q12, .ref q13, .ref q14, .int 0, .int (-1), .int 0, .int (-1), .ref q15, .ref q16]))] H := hP
  have hD : va_D A [(q0, .inr (8, [.ref q1, .ref q3, .ref q4, .ref q5, .int 0, .int 0, .int 0, .int 0, .int 0])), (q3, .inl (k0, 3001, .inl (fun _ => 0))), (q4, .inl (k1, 3001, .inl (fun _ => 0))), (q5, .inl (k2, 3001, .inl (fun _ => 0))), (q1, .inr (7, [.ref q6, .int 0, .ref q7, .ref q8, .ref q9, .ref q10, .ref q11, .ref q12, .ref q13, .ref q14, .int 0, .int (-1), .int 0, .int (-1), .ref q15, .ref q16]))] := hD
  refine lv_aload_n hx hb dX8_open_5 rfl (lv_at hl 0 rfl) ?_
  refine lv_iconst (v := 0) hx hb dX8_open_6 (by decide) ?_
  refine va_put (D := (dC, dI)) (ci := 8) (v := .int 0) (ty := .int) (C := RX8) (T := TX8) (N := 9) hx hb hts (fun w h => mc (in_X8 w h)) tyX8 tyX8_ok nmX8 hown hK hP hD hS 0 rfl rfl 4 (by decide) (hts _ (mc m_105)) (fun _ h9 => h9) rfl (by decide +kernel) (by first | rfl | decide) (by first | rfl | decide) (Nat.le_of_ble_eq_true rfl) dX8_open_7 (fun H locs hP hD hS => ?_)
  have hP : va_P (dC, dI) classes [(q0, .inr (8, [.ref q1, .ref q3, .ref q4, .ref q5, .int 0, .int 0, .int 0, .int 0, .int 0])), (q3, .inl (k0, 3001, .inl (fun _ => 0))), (q4, .inl (k1, 3001, .inl (fun _ => 0))), (q5, .inl (k2, 3001, .inl (fun _ => 0))), (q1, .inr (7, [.ref q6, .int 0, .ref q7, .ref q8, .ref q9, .ref q10, .ref q11, .ref q12, .ref q13, .ref q14, .int 0, .int (-1), .int 0, .int (-1), .ref q15, .ref q16]))] H := hP
  have hD : va_D A [(q0, .inr (8, [.ref q1, .ref q3, .ref q4, .ref q5, .int 0, .int 0, .int 0, .int 0, .int 0])), (q3, .inl (k0, 3001, .inl (fun _ => 0))), (q4, .inl (k1, 3001, .inl (fun _ => 0))), (q5, .inl (k2, 3001, .inl (fun _ => 0))), (q1, .inr (7, [.ref q6, .int 0, .ref q7, .ref q8, .ref q9, .ref q10, .ref q11, .ref q12, .ref q13, .ref q14, .int 0, .int (-1), .int 0, .int (-1), .ref q15, .ref q16]))] := hD
  refine lv_aload_n hx hb dX8_open_10 rfl (lv_at hl 0 rfl) ?_
  refine lv_iconst (v := 0) hx hb dX8_open_11 (by decide) ?_
  refine va_put (D := (dC, dI)) (ci := 8) (v := .int 0) (ty := .int) (C := RX8) (T := TX8) (N := 9) hx hb hts (fun w h => mc (in_X8 w h)) tyX8 tyX8_ok nmX8 hown hK hP hD hS 0 rfl rfl 8 (by decide) (hts _ (mc m_109)) (fun _ h9 => h9) rfl (by decide +kernel) (by first | rfl | decide) (by first | rfl | decide) (Nat.le_of_ble_eq_true rfl) dX8_open_12 (fun H locs hP hD hS => ?_)
  have hP : va_P (dC, dI) classes [(q0, .inr (8, [.ref q1, .ref q3, .ref q4, .ref q5, .int 0, .int 0, .int 0, .int 0, .int 0])), (q3, .inl (k0, 3001, .inl (fun _ => 0))), (q4, .inl (k1, 3001, .inl (fun _ => 0))), (q5, .inl (k2, 3001, .inl (fun _ => 0))), (q1, .inr (7, [.ref q6, .int 0, .ref q7, .ref q8, .ref q9, .ref q10, .ref q11, .ref q12, .ref q13, .ref q14, .int 0, .int (-1), .int 0, .int (-1), .ref q15, .ref q16]))] H := hP
  have hD : va_D A [(q0, .inr (8, [.ref q1, .ref q3, .ref q4, .ref q5, .int 0, .int 0, .int 0, .int 0, .int 0])), (q3, .inl (k0, 3001, .inl (fun _ => 0))), (q4, .inl (k1, 3001, .inl (fun _ => 0))), (q5, .inl (k2, 3001, .inl (fun _ => 0))), (q1, .inr (7, [.ref q6, .int 0, .ref q7, .ref q8, .ref q9, .ref q10, .ref q11, .ref q12, .ref q13, .ref q14, .int 0, .int (-1), .int 0, .int (-1), .ref q15, .ref q16]))] := hD
  refine lv_aload_n hx hb dX8_open_15 rfl (lv_at hl 0 rfl) ?_
  refine lv_iconst (v := 1) hx hb dX8_open_16 (by decide) ?_
  refine va_put (D := (dC, dI)) (ci := 8) (v := .int 1) (ty := .int) (C := RX8) (T := TX8) (N := 9) hx hb hts (fun w h => mc (in_X8 w h)) tyX8 tyX8_ok nmX8 hown hK hP hD hS 0 rfl rfl 6 (by decide) (hts _ (mc m_107)) (fun _ h9 => h9) rfl (by decide +kernel) (by first | rfl | decide) (by first | rfl | decide) (Nat.le_of_ble_eq_true rfl) dX8_open_17 (fun H locs hP hD hS => ?_)
  have hP : va_P (dC, dI) classes [(q0, .inr (8, [.ref q1, .ref q3, .ref q4, .ref q5, .int 0, .int 0, .int 1, .int 0, .int 0])), (q3, .inl (k0, 3001, .inl (fun _ => 0))), (q4, .inl (k1, 3001, .inl (fun _ => 0))), (q5, .inl (k2, 3001, .inl (fun _ => 0))), (q1, .inr (7, [.ref q6, .int 0, .ref q7, .ref q8, .ref q9, .ref q10, .ref q11, .ref q12, .ref q13, .ref q14, .int 0, .int (-1), .int 0, .int (-1), .ref q15, .ref q16]))] H := hP
  have hD : va_D A [(q0, .inr (8, [.ref q1, .ref q3, .ref q4, .ref q5, .int 0, .int 0, .int 1, .int 0, .int 0])), (q3, .inl (k0, 3001, .inl (fun _ => 0))), (q4, .inl (k1, 3001, .inl (fun _ => 0))), (q5, .inl (k2, 3001, .inl (fun _ => 0))), (q1, .inr (7, [.ref q6, .int 0, .ref q7, .ref q8, .ref q9, .ref q10, .ref q11, .ref q12, .ref q13, .ref q14, .int 0, .int (-1), .int 0, .int (-1), .ref q15, .ref q16]))] := hD
  refine lv_iconst (v := 0) hx hb dX8_open_20 (by decide) ?_
  refine lv_istore_n (lv' := [(2, .int 0), (0, .ref q0), (1, .ref q1)]) hx hb dX8_open_21 rfl hl (by decide) rfl (fun ls hl => ?_)
  refine lv_iload_n hx hb dX8_open_22 rfl (lv_at hl 0 rfl) ?_
  refine lv_sipush (v := 3000) hx hb dX8_open_23 (by decide) ?_
  refine lv_icmp_gt (tgt := 101) hx hb dX8_open_26 (by decide) (fun c9 => absurd c9 (by decide)) (fun _ => ?_)
  refine lv_aload_n hx hb dX8_open_29 rfl (lv_at hl 1 rfl) ?_
  refine va_get (D := (dC, dI)) (ci := 8) (v := .int 1) (C := RX8) (T := TX8) (N := 9) hx hb hts (fun w h => mc (in_X8 w h)) hown hK hP 0 rfl rfl 6 (by decide) (hts _ (mc m_107)) (fun _ h9 => h9) rfl dX8_open_30 ?_
  refine lv_if_eq (tgt := 101) hx hb dX8_open_33 (by decide) (fun c9 => absurd c9 (by decide)) (fun _ => ?_)
  refine lv_aload_n hx hb dX8_open_36 rfl (lv_at hl 1 rfl) ?_
  have hPc := hP.sub (ws' := [(q0, .inr (8, [.ref q1, .ref q3, .ref q4, .ref q5, .int 0, .int 0, .int 1, .int 0, .int 0])), (q1, .inr (7, [.ref q6, .int 0, .ref q7, .ref q8, .ref q9, .ref q10, .ref q11, .ref q12, .ref q13, .ref q14, .int 0, .int (-1), .int 0, .int (-1), .ref q15, .ref q16]))]) [0, 4] rfl
  have hDc := hD.sub (ws' := [(q0, .inr (8, [.ref q1, .ref q3, .ref q4, .ref q5, .int 0, .int 0, .int 1, .int 0, .int 0])), (q1, .inr (7, [.ref q6, .int 0, .ref q7, .ref q8, .ref q9, .ref q10, .ref q11, .ref q12, .ref q13, .ref q14, .int 0, .int (-1), .int 0, .int (-1), .ref q15, .ref q16]))]) [0, 4] (by decide) rfl
  have hKc := hK.sub (tys' := []) [] rfl
  have hFc := va_free (wc := [(q0, .inr (8, [.ref q1, .ref q3, .ref q4, .ref q5, .int 0, .int 0, .int 1, .int 0, .int 0])), (q1, .inr (7, [.ref q6, .int 0, .ref q7, .ref q8, .ref q9, .ref q10, .ref q11, .ref q12, .ref q13, .ref q14, .int 0, .int (-1), .int 0, .int (-1), .ref q15, .ref q16]))]) hD hS hA [0, 4] rfl
  refine va_callv (va_runV (As := []) (rest := []) ⟨hx, hb, hml, hown, hts⟩ (c_X8_scan_0 l dC dI q0 q1 q3 q4 q5 q6 q7 q8 q9 q10 q11 q12 q13 q14 q15 q16 H.size) (cwV 0 hts (gV m_304 m_305 m_306 m_99 m_303) rfl rfl rfl (by decide +kernel) ⟨Nat.le_of_ble_eq_true rfl, Nat.le_of_ble_eq_true rfl⟩) ⟨q_bl, va_recv hKc hPc (ci := 8) (q0 := 0) rfl rfl, q_pre hPc hKc hDc hE hS hFc⟩ rfl rfl hl.1 rfl (lv_room (Nat.le_of_ble_eq_true rfl)) dX8_open_37 ⟨Nat.le_of_ble_eq_true rfl, Nat.le_of_ble_eq_true rfl⟩) hS (fun q _ h => hFc q h) hFc (fun u t H1 locs ht hvm hw hB hz1 hk1 hS => ?_)
  obtain ⟨hP1, hK1, hD1⟩ := hB
  rw [ht] at hP1
  have hK1 := va_K.moved hvm.symm hK1
  obtain ⟨hP, hD⟩ := va_join (wr := [(q3, .inl (k0, 3001, .inl (fun _ => 0))), (q4, .inl (k1, 3001, .inl (fun _ => 0))), (q5, .inl (k2, 3001, .inl (fun _ => 0)))]) (w1 := [(q0, .inr (8, [.ref q1, .ref q3, .ref q4, .ref q5, .int 0, .int 0, .int 0, .int 0, .int 0])), (q1, .inr (7, [.ref q6, .int 0, .ref q7, .ref q8, .ref q9, .ref q10, .ref q11, .ref q12, .ref q13, .ref q14, .int 0, .int (-1), .int 0, .int (-1), .ref q15, .ref q16]))]) hP hD [0, 4] [1, 2, 3] rfl rfl (by decide) (by decide) hk1 hFc hP1 hD1
  have hK := (hK.sub (tys' := [(k0, .int), (k1, .int), (k2, .int)]) [0, 1, 2] rfl).app hK1
  generalize H1 = H at hP hS ⊢
  have hP : va_P (dC, dI) classes [(q3, .inl (k0, 3001, .inl (fun _ => 0))), (q4, .inl (k1, 3001, .inl (fun _ => 0))), (q5, .inl (k2, 3001, .inl (fun _ => 0))), (q0, .inr (8, [.ref q1, .ref q3, .ref q4, .ref q5, .int 0, .int 0, .int 0, .int 0, .int 0])), (q1, .inr (7, [.ref q6, .int 0, .ref q7, .ref q8, .ref q9, .ref q10, .ref q11, .ref q12, .ref q13, .ref q14, .int 0, .int (-1), .int 0, .int (-1), .ref q15, .ref q16]))] H := hP
  have hD : va_D A [(q3, .inl (k0, 3001, .inl (fun _ => 0))), (q4, .inl (k1, 3001, .inl (fun _ => 0))), (q5, .inl (k2, 3001, .inl (fun _ => 0))), (q0, .inr (8, [.ref q1, .ref q3, .ref q4, .ref q5, .int 0, .int 0, .int 0, .int 0, .int 0])), (q1, .inr (7, [.ref q6, .int 0, .ref q7, .ref q8, .ref q9, .ref q10, .ref q11, .ref q12, .ref q13, .ref q14, .int 0, .int (-1), .int 0, .int (-1), .ref q15, .ref q16]))] := hD
  have hK : va_K (dC, dI) classes [(k0, .int), (k1, .int), (k2, .int)] s := hK
  refine lv_aload_n hx hb dX8_open_40 rfl (lv_at hl 1 rfl) ?_
  refine va_get (D := (dC, dI)) (ci := 8) (v := .ref q3) (C := RX8) (T := TX8) (N := 9) hx hb hts (fun w h => mc (in_X8 w h)) hown hK hP 3 rfl rfl 1 (by decide) (hts _ (mc m_102)) (fun _ h9 => h9) rfl dX8_open_41 ?_
  refine lv_aload_n hx hb dX8_open_44 rfl (lv_at hl 1 rfl) ?_
  refine va_get (D := (dC, dI)) (ci := 8) (v := .int 0) (C := RX8) (T := TX8) (N := 9) hx hb hts (fun w h => mc (in_X8 w h)) hown hK hP 3 rfl rfl 4 (by decide) (hts _ (mc m_105)) (fun _ h9 => h9) rfl dX8_open_45 ?_
  refine lv_aload_n hx hb dX8_open_48 rfl (lv_at hl 1 rfl) ?_
  refine va_get (D := (dC, dI)) (ci := 8) (v := .int 0) (C := RX8) (T := TX8) (N := 9) hx hb hts (fun w h => mc (in_X8 w h)) hown hK hP 3 rfl rfl 6 (by decide) (hts _ (mc m_107)) (fun _ h9 => h9) rfl dX8_open_49 ?_
  have hPc := hP.sub (ws' := [(q3, .inl (k0, 3001, .inl (fun _ => 0)))]) [0] rfl
  have hDc := hD.sub (ws' := [(q3, .inl (k0, 3001, .inl (fun _ => 0)))]) [0] (by decide) rfl
  have hKc := hK.sub (tys' := [(k0, .int)]) [0] rfl
  have hFc := va_free (wc := [(q3, .inl (k0, 3001, .inl (fun _ => 0)))]) hD hS hA [0] rfl
  refine va_callv (va_runSN (As := [.ref q3, .int 0, .int 0]) (rest := []) ⟨hx, hb, hml, hown, hts⟩ (c_X11_put_7 l dC dI q3 k0 H.size) ⟨va_cnB 3 hts (gI m_277) rfl rfl rfl (hN (RX8, 44, yX11_put, RX11) (List.mem_of_getElem? (i := 8) rfl)) (hts _ (mc m_251)) (by decide +kernel) ⟨Nat.le_of_ble_eq_true rfl, Nat.le_of_ble_eq_true rfl⟩, (hts _ (mc m_278)), trivial⟩ ⟨q_bl, q_pre hPc hKc hDc hE hS hFc⟩ rfl rfl hl.1 rfl (lv_room (Nat.le_of_ble_eq_true rfl)) dX8_open_52 ⟨Nat.le_of_ble_eq_true rfl, Nat.le_of_ble_eq_true rfl⟩) hS (fun q _ h => hFc q h) hFc (fun u t H1 locs ht hvm hw hB hz1 hk1 hS => ?_)
  obtain ⟨hP1, hK1, hD1⟩ := hB
  rw [ht] at hP1
  have hK1 := va_K.moved hvm.symm hK1
  obtain ⟨hP, hD⟩ := va_join (wr := [(q4, .inl (k1, 3001, .inl (fun _ => 0))), (q5, .inl (k2, 3001, .inl (fun _ => 0))), (q0, .inr (8, [.ref q1, .ref q3, .ref q4, .ref q5, .int 0, .int 0, .int 0, .int 0, .int 0])), (q1, .inr (7, [.ref q6, .int 0, .ref q7, .ref q8, .ref q9, .ref q10, .ref q11, .ref q12, .ref q13, .ref q14, .int 0, .int (-1), .int 0, .int (-1), .ref q15, .ref q16]))]) (w1 := [(q3, .inl (k0, 3001, .inl (upd (fun _ => 0) 0 0)))]) hP hD [0] [1, 2, 3, 4] rfl rfl (by decide) (by decide) hk1 hFc hP1 hD1
  have hK := (hK.sub (tys' := [(k1, .int), (k2, .int)]) [1, 2] rfl).app hK1
  generalize H1 = H at hP hS ⊢
  have hP : va_P (dC, dI) classes [(q4, .inl (k1, 3001, .inl (fun _ => 0))), (q5, .inl (k2, 3001, .inl (fun _ => 0))), (q0, .inr (8, [.ref q1, .ref q3, .ref q4, .ref q5, .int 0, .int 0, .int 0, .int 0, .int 0])), (q1, .inr (7, [.ref q6, .int 0, .ref q7, .ref q8, .ref q9, .ref q10, .ref q11, .ref q12, .ref q13, .ref q14, .int 0, .int (-1), .int 0, .int (-1), .ref q15, .ref q16])), (q3, .inl (k0, 3001, .inl (upd (fun _ => 0) 0 0)))] H := hP
  have hD : va_D A [(q4, .inl (k1, 3001, .inl (fun _ => 0))), (q5, .inl (k2, 3001, .inl (fun _ => 0))), (q0, .inr (8, [.ref q1, .ref q3, .ref q4, .ref q5, .int 0, .int 0, .int 0, .int 0, .int 0])), (q1, .inr (7, [.ref q6, .int 0, .ref q7, .ref q8, .ref q9, .ref q10, .ref q11, .ref q12, .ref q13, .ref q14, .int 0, .int (-1), .int 0, .int (-1), .ref q15, .ref q16])), (q3, .inl (k0, 3001, .inl (upd (fun _ => 0) 0 0)))] := hD
  have hK : va_K (dC, dI) classes [(k1, .int), (k2, .int), (k0, .int)] s := hK
  refine lv_aload_n hx hb dX8_open_55 rfl (lv_at hl 1 rfl) ?_
  refine va_get (D := (dC, dI)) (ci := 8) (v := .ref q4) (C := RX8) (T := TX8) (N := 9) hx hb hts (fun w h => mc (in_X8 w h)) hown hK hP 2 rfl rfl 2 (by decide) (hts _ (mc m_103)) (fun _ h9 => h9) rfl dX8_open_56 ?_
  refine lv_aload_n hx hb dX8_open_59 rfl (lv_at hl 1 rfl) ?_
  refine va_get (D := (dC, dI)) (ci := 8) (v := .int 0) (C := RX8) (T := TX8) (N := 9) hx hb hts (fun w h => mc (in_X8 w h)) hown hK hP 2 rfl rfl 4 (by decide) (hts _ (mc m_105)) (fun _ h9 => h9) rfl dX8_open_60 ?_
  refine lv_aload_n hx hb dX8_open_63 rfl (lv_at hl 1 rfl) ?_
  refine va_get (D := (dC, dI)) (ci := 8) (v := .int 0) (C := RX8) (T := TX8) (N := 9) hx hb hts (fun w h => mc (in_X8 w h)) hown hK hP 2 rfl rfl 7 (by decide) (hts _ (mc m_108)) (fun _ h9 => h9) rfl dX8_open_64 ?_
  have hPc := hP.sub (ws' := [(q4, .inl (k1, 3001, .inl (fun _ => 0)))]) [0] rfl
  have hDc := hD.sub (ws' := [(q4, .inl (k1, 3001, .inl (fun _ => 0)))]) [0] (by decide) rfl
  have hKc := hK.sub (tys' := [(k1, .int)]) [0] rfl
  have hFc := va_free (wc := [(q4, .inl (k1, 3001, .inl (fun _ => 0)))]) hD hS hA [0] rfl
  refine va_callv (va_runSN (As := [.ref q4, .int 0, .int 0]) (rest := []) ⟨hx, hb, hml, hown, hts⟩ (c_X11_put_7 l dC dI q4 k1 H.size) ⟨va_cnB 3 hts (gI m_277) rfl rfl rfl (hN (RX8, 44, yX11_put, RX11) (List.mem_of_getElem? (i := 8) rfl)) (hts _ (mc m_251)) (by decide +kernel) ⟨Nat.le_of_ble_eq_true rfl, Nat.le_of_ble_eq_true rfl⟩, (hts _ (mc m_278)), trivial⟩ ⟨q_bl, q_pre hPc hKc hDc hE hS hFc⟩ rfl rfl hl.1 rfl (lv_room (Nat.le_of_ble_eq_true rfl)) dX8_open_67 ⟨Nat.le_of_ble_eq_true rfl, Nat.le_of_ble_eq_true rfl⟩) hS (fun q _ h => hFc q h) hFc (fun u t H1 locs ht hvm hw hB hz1 hk1 hS => ?_)
  obtain ⟨hP1, hK1, hD1⟩ := hB
  rw [ht] at hP1
  have hK1 := va_K.moved hvm.symm hK1
  obtain ⟨hP, hD⟩ := va_join (wr := [(q5, .inl (k2, 3001, .inl (fun _ => 0))), (q0, .inr (8, [.ref q1, .ref q3, .ref q4, .ref q5, .int 0, .int 0, .int 0, .int 0, .int 0])), (q1, .inr (7, [.ref q6, .int 0, .ref q7, .ref q8, .ref q9, .ref q10, .ref q11, .ref q12, .ref q13, .ref q14, .int 0, .int (-1), .int 0, .int (-1), .ref q15, .ref q16])), (q3, .inl (k0, 3001, .inl (upd (fun _ => 0) 0 0)))]) (w1 := [(q4, .inl (k1, 3001, .inl (upd (fun _ => 0) 0 0)))]) hP hD [0] [1, 2, 3, 4] rfl rfl (by decide) (by decide) hk1 hFc hP1 hD1
  have hK := (hK.sub (tys' := [(k2, .int), (k0, .int)]) [1, 2] rfl).app hK1
  generalize H1 = H at hP hS ⊢
  have hP : va_P (dC, dI) classes [(q5, .inl (k2, 3001, .inl (fun _ => 0))), (q0, .inr (8, [.ref q1, .ref q3, .ref q4, .ref q5, .int 0, .int 0, .int 0, .int 0, .int 0])), (q1, .inr (7, [.ref q6, .int 0, .ref q7, .ref q8, .ref q9, .ref q10, .ref q11, .ref q12, .ref q13, .ref q14, .int 0, .int (-1), .int 0, .int (-1), .ref q15, .ref q16])), (q3, .inl (k0, 3001, .inl (upd (fun _ => 0) 0 0))), (q4, .inl (k1, 3001, .inl (upd (fun _ => 0) 0 0)))] H := hP
  have hD : va_D A [(q5, .inl (k2, 3001, .inl (fun _ => 0))), (q0, .inr (8, [.ref q1, .ref q3, .ref q4, .ref q5, .int 0, .int 0, .int 0, .int 0, .int 0])), (q1, .inr (7, [.ref q6, .int 0, .ref q7, .ref q8, .ref q9, .ref q10, .ref q11, .ref q12, .ref q13, .ref q14, .int 0, .int (-1), .int 0, .int (-1), .ref q15, .ref q16])), (q3, .inl (k0, 3001, .inl (upd (fun _ => 0) 0 0))), (q4, .inl (k1, 3001, .inl (upd (fun _ => 0) 0 0)))] := hD
  have hK : va_K (dC, dI) classes [(k2, .int), (k0, .int), (k1, .int)] s := hK
  refine lv_aload_n hx hb dX8_open_70 rfl (lv_at hl 1 rfl) ?_
  refine va_get (D := (dC, dI)) (ci := 8) (v := .ref q5) (C := RX8) (T := TX8) (N := 9) hx hb hts (fun w h => mc (in_X8 w h)) hown hK hP 1 rfl rfl 3 (by decide) (hts _ (mc m_104)) (fun _ h9 => h9) rfl dX8_open_71 ?_
  refine lv_aload_n hx hb dX8_open_74 rfl (lv_at hl 1 rfl) ?_
  refine va_get (D := (dC, dI)) (ci := 8) (v := .int 0) (C := RX8) (T := TX8) (N := 9) hx hb hts (fun w h => mc (in_X8 w h)) hown hK hP 1 rfl rfl 4 (by decide) (hts _ (mc m_105)) (fun _ h9 => h9) rfl dX8_open_75 ?_
  refine lv_aload_n hx hb dX8_open_78 rfl (lv_at hl 1 rfl) ?_
  refine va_get (D := (dC, dI)) (ci := 8) (v := .int 0) (C := RX8) (T := TX8) (N := 9) hx hb hts (fun w h => mc (in_X8 w h)) hown hK hP 1 rfl rfl 8 (by decide) (hts _ (mc m_109)) (fun _ h9 => h9) rfl dX8_open_79 ?_
  have hPc := hP.sub (ws' := [(q5, .inl (k2, 3001, .inl (fun _ => 0)))]) [0] rfl
  have hDc := hD.sub (ws' := [(q5, .inl (k2, 3001, .inl (fun _ => 0)))]) [0] (by decide) rfl
  have hKc := hK.sub (tys' := [(k2, .int)]) [0] rfl
  have hFc := va_free (wc := [(q5, .inl (k2, 3001, .inl (fun _ => 0)))]) hD hS hA [0] rfl
  refine va_callv (va_runSN (As := [.ref q5, .int 0, .int 0]) (rest := []) ⟨hx, hb, hml, hown, hts⟩ (c_X11_put_7 l dC dI q5 k2 H.size) ⟨va_cnB 3 hts (gI m_277) rfl rfl rfl (hN (RX8, 44, yX11_put, RX11) (List.mem_of_getElem? (i := 8) rfl)) (hts _ (mc m_251)) (by decide +kernel) ⟨Nat.le_of_ble_eq_true rfl, Nat.le_of_ble_eq_true rfl⟩, (hts _ (mc m_278)), trivial⟩ ⟨q_bl, q_pre hPc hKc hDc hE hS hFc⟩ rfl rfl hl.1 rfl (lv_room (Nat.le_of_ble_eq_true rfl)) dX8_open_82 ⟨Nat.le_of_ble_eq_true rfl, Nat.le_of_ble_eq_true rfl⟩) hS (fun q _ h => hFc q h) hFc (fun u t H1 locs ht hvm hw hB hz1 hk1 hS => ?_)
  obtain ⟨hP1, hK1, hD1⟩ := hB
  rw [ht] at hP1
  have hK1 := va_K.moved hvm.symm hK1
  obtain ⟨hP, hD⟩ := va_join (wr := [(q0, .inr (8, [.ref q1, .ref q3, .ref q4, .ref q5, .int 0, .int 0, .int 0, .int 0, .int 0])), (q1, .inr (7, [.ref q6, .int 0, .ref q7, .ref q8, .ref q9, .ref q10, .ref q11, .ref q12, .ref q13, .ref q14, .int 0, .int (-1), .int 0, .int (-1), .ref q15, .ref q16])), (q3, .inl (k0, 3001, .inl (upd (fun _ => 0) 0 0))), (q4, .inl (k1, 3001, .inl (upd (fun _ => 0) 0 0)))]) (w1 := [(q5, .inl (k2, 3001, .inl (upd (fun _ => 0) 0 0)))]) hP hD [0] [1, 2, 3, 4] rfl rfl (by decide) (by decide) hk1 hFc hP1 hD1
  have hK := (hK.sub (tys' := [(k0, .int), (k1, .int)]) [1, 2] rfl).app hK1
  generalize H1 = H at hP hS ⊢
  have hP : va_P (dC, dI) classes [(q0, .inr (8, [.ref q1, .ref q3, .ref q4, .ref q5, .int 0, .int 0, .int 0, .int 0, .int 0])), (q1, .inr (7, [.ref q6, .int 0, .ref q7, .ref q8, .ref q9, .ref q10, .ref q11, .ref q12, .ref q13, .ref q14, .int 0, .int (-1), .int 0, .int (-1), .ref q15, .ref q16])), (q3, .inl (k0, 3001, .inl (upd (fun _ => 0) 0 0))), (q4, .inl (k1, 3001, .inl (upd (fun _ => 0) 0 0))), (q5, .inl (k2, 3001, .inl (upd (fun _ => 0) 0 0)))] H := hP
  have hD : va_D A [(q0, .inr (8, [.ref q1, .ref q3, .ref q4, .ref q5, .int 0, .int 0, .int 0, .int 0, .int 0])), (q1, .inr (7, [.ref q6, .int 0, .ref q7, .ref q8, .ref q9, .ref q10, .ref q11, .ref q12, .ref q13, .ref q14, .int 0, .int (-1), .int 0, .int (-1), .ref q15, .ref q16])), (q3, .inl (k0, 3001, .inl (upd (fun _ => 0) 0 0))), (q4, .inl (k1, 3001, .inl (upd (fun _ => 0) 0 0))), (q5, .inl (k2, 3001, .inl (upd (fun _ => 0) 0 0)))] := hD
  have hK : va_K (dC, dI) classes [(k0, .int), (k1, .int), (k2, .int)] s := hK
  refine lv_aload_n hx hb dX8_open_85 rfl (lv_at hl 1 rfl) ?_
  refine lv_dup hx hb dX8_open_86 rfl ?_
  refine va_get (D := (dC, dI)) (ci := 8) (v := .int 0) (C := RX8) (T := TX8) (N := 9) hx hb hts (fun w h => mc (in_X8 w h)) hown hK hP 0 rfl rfl 4 (by decide) (hts _ (mc m_105)) (fun _ h9 => h9) rfl dX8_open_87 ?_
  refine lv_iconst (v := 1) hx hb dX8_open_90 (by decide) ?_
  refine lv_iadd hx hb dX8_open_91 ?_
  refine q_topi 1 (by decide) ?_
  refine va_put (D := (dC, dI)) (ci := 8) (v := .int 1) (ty := .int) (C := RX8) (T := TX8) (N := 9) hx hb hts (fun w h => mc (in_X8 w h)) tyX8 tyX8_ok nmX8 hown hK hP hD hS 0 rfl rfl 4 (by decide) (hts _ (mc m_105)) (fun _ h9 => h9) rfl (by decide +kernel) (by first | rfl | decide) (by first | rfl | decide) (Nat.le_of_ble_eq_true rfl) dX8_open_92 (fun H locs hP hD hS => ?_)
  have hP : va_P (dC, dI) classes [(q0, .inr (8, [.ref q1, .ref q3, .ref q4, .ref q5, .int 1, .int 0, .int 0, .int 0, .int 0])), (q1, .inr (7, [.ref q6, .int 0, .ref q7, .ref q8, .ref q9, .ref q10, .ref q11, .ref q12, .ref q13, .ref q14, .int 0, .int (-1), .int 0, .int (-1), .ref q15, .ref q16])), (q3, .inl (k0, 3001, .inl (upd (fun _ => 0) 0 0))), (q4, .inl (k1, 3001, .inl (upd (fun _ => 0) 0 0))), (q5, .inl (k2, 3001, .inl (upd (fun _ => 0) 0 0)))] H := hP
  have hD : va_D A [(q0, .inr (8, [.ref q1, .ref q3, .ref q4, .ref q5, .int 1, .int 0, .int 0, .int 0, .int 0])), (q1, .inr (7, [.ref q6, .int 0, .ref q7, .ref q8, .ref q9, .ref q10, .ref q11, .ref q12, .ref q13, .ref q14, .int 0, .int (-1), .int 0, .int (-1), .ref q15, .ref q16])), (q3, .inl (k0, 3001, .inl (upd (fun _ => 0) 0 0))), (q4, .inl (k1, 3001, .inl (upd (fun _ => 0) 0 0))), (q5, .inl (k2, 3001, .inl (upd (fun _ => 0) 0 0)))] := hD
  refine lv_iinc (v := 1) (lv' := [(2, .int 1), (0, .ref q0), (1, .ref q1)]) hx hb dX8_open_95 hl (k := 0) rfl (by decide) (by decide) rfl (fun ls hl => ?_)
  refine lv_goto (tgt := 22) hx hb dX8_open_98 (by decide) ?_
  refine lv_iload_n hx hb dX8_open_22 rfl (lv_at hl 0 rfl) ?_
  refine lv_sipush (v := 3000) hx hb dX8_open_23 (by decide) ?_
  refine lv_icmp_gt (tgt := 101) hx hb dX8_open_26 (by decide) (fun c9 => absurd c9 (by decide)) (fun _ => ?_)
  refine lv_aload_n hx hb dX8_open_29 rfl (lv_at hl 1 rfl) ?_
  refine va_get (D := (dC, dI)) (ci := 8) (v := .int 0) (C := RX8) (T := TX8) (N := 9) hx hb hts (fun w h => mc (in_X8 w h)) hown hK hP 0 rfl rfl 6 (by decide) (hts _ (mc m_107)) (fun _ h9 => h9) rfl dX8_open_30 ?_
  refine lv_if_eq (tgt := 101) hx hb dX8_open_33 (by decide) (fun _ => ?_) (fun c9 => absurd (by decide) c9)
  refine lv_aload_n hx hb dX8_open_101 rfl (lv_at hl 1 rfl) ?_
  refine lv_iconst (v := 1) hx hb dX8_open_102 (by decide) ?_
  refine va_put (D := (dC, dI)) (ci := 8) (v := .int 1) (ty := .int) (C := RX8) (T := TX8) (N := 9) hx hb hts (fun w h => mc (in_X8 w h)) tyX8 tyX8_ok nmX8 hown hK hP hD hS 0 rfl rfl 6 (by decide) (hts _ (mc m_107)) (fun _ h9 => h9) rfl (by decide +kernel) (by first | rfl | decide) (by first | rfl | decide) (Nat.le_of_ble_eq_true rfl) dX8_open_103 (fun H locs hP hD hS => ?_)
  have hP : va_P (dC, dI) classes [(q0, .inr (8, [.ref q1, .ref q3, .ref q4, .ref q5, .int 1, .int 0, .int 1, .int 0, .int 0])), (q1, .inr (7, [.ref q6, .int 0, .ref q7, .ref q8, .ref q9, .ref q10, .ref q11, .ref q12, .ref q13, .ref q14, .int 0, .int (-1), .int 0, .int (-1), .ref q15, .ref q16])), (q3, .inl (k0, 3001, .inl (upd (fun _ => 0) 0 0))), (q4, .inl (k1, 3001, .inl (upd (fun _ => 0) 0 0))), (q5, .inl (k2, 3001, .inl (upd (fun _ => 0) 0 0)))] H := hP
  have hD : va_D A [(q0, .inr (8, [.ref q1, .ref q3, .ref q4, .ref q5, .int 1, .int 0, .int 1, .int 0, .int 0])), (q1, .inr (7, [.ref q6, .int 0, .ref q7, .ref q8, .ref q9, .ref q10, .ref q11, .ref q12, .ref q13, .ref q14, .int 0, .int (-1), .int 0, .int (-1), .ref q15, .ref q16])), (q3, .inl (k0, 3001, .inl (upd (fun _ => 0) 0 0))), (q4, .inl (k1, 3001, .inl (upd (fun _ => 0) 0 0))), (q5, .inl (k2, 3001, .inl (upd (fun _ => 0) 0 0)))] := hD
  refine lv_aload_n hx hb dX8_open_106 rfl (lv_at hl 1 rfl) ?_
  refine lv_iconst (v := (-1)) hx hb dX8_open_107 (by decide) ?_
  refine va_put (D := (dC, dI)) (ci := 8) (v := .int (-1)) (ty := .int) (C := RX8) (T := TX8) (N := 9) hx hb hts (fun w h => mc (in_X8 w h)) tyX8 tyX8_ok nmX8 hown hK hP hD hS 0 rfl rfl 5 (by decide) (hts _ (mc m_106)) (fun _ h9 => h9) rfl (by decide +kernel) (by first | rfl | decide) (by first | rfl | decide) (Nat.le_of_ble_eq_true rfl) dX8_open_108 (fun H locs hP hD hS => ?_)
  have hP : va_P (dC, dI) classes [(q0, .inr (8, [.ref q1, .ref q3, .ref q4, .ref q5, .int 1, .int (-1), .int 1, .int 0, .int 0])), (q1, .inr (7, [.ref q6, .int 0, .ref q7, .ref q8, .ref q9, .ref q10, .ref q11, .ref q12, .ref q13, .ref q14, .int 0, .int (-1), .int 0, .int (-1), .ref q15, .ref q16])), (q3, .inl (k0, 3001, .inl (upd (fun _ => 0) 0 0))), (q4, .inl (k1, 3001, .inl (upd (fun _ => 0) 0 0))), (q5, .inl (k2, 3001, .inl (upd (fun _ => 0) 0 0)))] H := hP
  have hD : va_D A [(q0, .inr (8, [.ref q1, .ref q3, .ref q4, .ref q5, .int 1, .int (-1), .int 1, .int 0, .int 0])), (q1, .inr (7, [.ref q6, .int 0, .ref q7, .ref q8, .ref q9, .ref q10, .ref q11, .ref q12, .ref q13, .ref q14, .int 0, .int (-1), .int 0, .int (-1), .ref q15, .ref q16])), (q3, .inl (k0, 3001, .inl (upd (fun _ => 0) 0 0))), (q4, .inl (k1, 3001, .inl (upd (fun _ => 0) 0 0))), (q5, .inl (k2, 3001, .inl (upd (fun _ => 0) 0 0)))] := hD
  refine lv_aload_n hx hb dX8_open_111 rfl (lv_at hl 1 rfl) ?_
  have hPc := hP.sub (ws' := [(q0, .inr (8, [.ref q1, .ref q3, .ref q4, .ref q5, .int 1, .int (-1), .int 1, .int 0, .int 0])), (q3, .inl (k0, 3001, .inl (upd (fun _ => 0) 0 0))), (q4, .inl (k1, 3001, .inl (upd (fun _ => 0) 0 0))), (q5, .inl (k2, 3001, .inl (upd (fun _ => 0) 0 0)))]) [0, 2, 3, 4] rfl
  have hDc := hD.sub (ws' := [(q0, .inr (8, [.ref q1, .ref q3, .ref q4, .ref q5, .int 1, .int (-1), .int 1, .int 0, .int 0])), (q3, .inl (k0, 3001, .inl (upd (fun _ => 0) 0 0))), (q4, .inl (k1, 3001, .inl (upd (fun _ => 0) 0 0))), (q5, .inl (k2, 3001, .inl (upd (fun _ => 0) 0 0)))]) [0, 2, 3, 4] (by decide) rfl
  have hKc := hK.sub (tys' := [(k0, .int), (k1, .int), (k2, .int)]) [0, 1, 2] rfl
  have hFc := va_free (wc := [(q0, .inr (8, [.ref q1, .ref q3, .ref q4, .ref q5, .int 1, .int (-1), .int 1, .int 0, .int 0])), (q3, .inl (k0, 3001, .inl (upd (fun _ => 0) 0 0))), (q4, .inl (k1, 3001, .inl (upd (fun _ => 0) 0 0))), (q5, .inl (k2, 3001, .inl (upd (fun _ => 0) 0 0)))]) hD hS hA [0, 2, 3, 4] rfl
  refine va_callv (va_runV (As := []) (rest := []) ⟨hx, hb, hml, hown, hts⟩ (c_X8_advance_0 l dC dI q0 q1 q3 q4 q5 k0 k1 k2 H.size) (cwV 0 hts (gV m_310 m_311 m_312 m_99 m_309) rfl rfl rfl (by decide +kernel) ⟨Nat.le_of_ble_eq_true rfl, Nat.le_of_ble_eq_true rfl⟩) ⟨q_bl, va_recv hKc hPc (ci := 8) (q0 := 0) rfl rfl, q_pre hPc hKc hDc hE hS hFc⟩ rfl rfl hl.1 rfl (lv_room (Nat.le_of_ble_eq_true rfl)) dX8_open_112 ⟨Nat.le_of_ble_eq_true rfl, Nat.le_of_ble_eq_true rfl⟩) hS (fun q _ h => hFc q h) hFc (fun u t H1 locs ht hvm hw hB hz1 hk1 hS => ?_)
  obtain ⟨hP1, hK1, hD1⟩ := hB
  rw [ht] at hP1
  have hK1 := va_K.moved hvm.symm hK1
  obtain ⟨hP, hD⟩ := va_join (wr := [(q1, .inr (7, [.ref q6, .int 0, .ref q7, .ref q8, .ref q9, .ref q10, .ref q11, .ref q12, .ref q13, .ref q14, .int 0, .int (-1), .int 0, .int (-1), .ref q15, .ref q16]))]) (w1 := [(q0, .inr (8, [.ref q1, .ref q3, .ref q4, .ref q5, .int 1, .int 0, .int 0, .int 0, .int 0])), (q3, .inl (k0, 3001, .inl (upd (fun _ => 0) 0 0))), (q4, .inl (k1, 3001, .inl (upd (fun _ => 0) 0 0))), (q5, .inl (k2, 3001, .inl (upd (fun _ => 0) 0 0)))]) hP hD [0, 2, 3, 4] [1] rfl rfl (by decide) (by decide) hk1 hFc hP1 hD1
  have hK := (hK.sub (tys' := []) [] rfl).app hK1
  generalize H1 = H at hP hS ⊢
  have hP : va_P (dC, dI) classes [(q1, .inr (7, [.ref q6, .int 0, .ref q7, .ref q8, .ref q9, .ref q10, .ref q11, .ref q12, .ref q13, .ref q14, .int 0, .int (-1), .int 0, .int (-1), .ref q15, .ref q16])), (q0, .inr (8, [.ref q1, .ref q3, .ref q4, .ref q5, .int 1, .int 0, .int 0, .int 0, .int 0])), (q3, .inl (k0, 3001, .inl (upd (fun _ => 0) 0 0))), (q4, .inl (k1, 3001, .inl (upd (fun _ => 0) 0 0))), (q5, .inl (k2, 3001, .inl (upd (fun _ => 0) 0 0)))] H := hP
  have hD : va_D A [(q1, .inr (7, [.ref q6, .int 0, .ref q7, .ref q8, .ref q9, .ref q10, .ref q11, .ref q12, .ref q13, .ref q14, .int 0, .int (-1), .int 0, .int (-1), .ref q15, .ref q16])), (q0, .inr (8, [.ref q1, .ref q3, .ref q4, .ref q5, .int 1, .int 0, .int 0, .int 0, .int 0])), (q3, .inl (k0, 3001, .inl (upd (fun _ => 0) 0 0))), (q4, .inl (k1, 3001, .inl (upd (fun _ => 0) 0 0))), (q5, .inl (k2, 3001, .inl (upd (fun _ => 0) 0 0)))] := hD
  have hK : va_K (dC, dI) classes [(k0, .int), (k1, .int), (k2, .int)] s := hK
  exact W.vret hx hb hr (fun t ht hW => ⟨⟨(), rfl, trivial, by rw [ht]; exact hP, va_K.moved hW.alike hK, hD⟩, hS.F ht⟩) hS.2.2 dX8_open_115
set_option maxHeartbeats 4000000 in
set_option maxRecDepth 100000 in
theorem c_X8_kind_0 (l : Launch) (dC : Nat → ClassId) (dI : Nat → Nat → Nat) (q0 : Nat) (q1 : Nat) (q2 : Nat) (q3 : Nat) (q4 : Nat) (sz : Nat) : Met l yX8_kind (.code yX8_kind cX8_kind 1 (some .int) :: bigW) { frames := 0, cells := 0, slots := 0, locals := 0 } (va_Pc [.ref q0] (q_In dC dI [(q0, .inr (8, [.ref q1, .ref q2, .ref q3, .ref q4, .int 1, .int 0, .int 0, .int 0, .int 0]))] [] sz)) (va_Qi (fun (r9 : Int32) (_ : Unit) => r9 = 0) (fun _ t => va_P (dC, dI) classes [(q0, .inr (8, [.ref q1, .ref q2, .ref q3, .ref q4, .int 1, .int 0, .int 0, .int 0, .int 0]))] t.heap ∧ va_K (dC, dI) classes [] t ∧ va_D (va_A [(q0, .inr (8, [.ref q1, .ref q2, .ref q3, .ref q4, .int 1, .int 0, .int 0, .int 0, .int 0]))] sz) [(q0, .inr (8, [.ref q1, .ref q2, .ref q3, .ref q4, .int 1, .int 0, .int 0, .int 0, .int 0]))]) (va_A [(q0, .inr (8, [.ref q1, .ref q2, .ref q3, .ref q4, .int 1, .int 0, .int 0, .int 0, .int 0]))] sz)) 0 0 (va_A [(q0, .inr (8, [.ref q1, .ref q2, .ref q3, .ref q4, .int 1, .int 0, .int 0, .int 0, .int 0]))] sz) := by
  refine Met.ofW (cc := cX8_kind) (maxL := 1) (ret := (some .int)) (by decide) rfl ?_
  intro p e s m args below meth c s₁ B hml hv
  obtain ⟨rfl, hsz, hP, hK, hD0, hE⟩ := hv
  have hx := B.exec
  have hb := B.bytes
  have hr := B.returns
  have hts := atoms_spec (ws := .code yX8_kind cX8_kind 1 (some .int) :: bigW) B.pre
  have hown : s.vm.findClass RX8 = some m.cls := findClass_of_methodNamed B.named
  have hlocks := B.notSynchronized
  subst hsz
  have hD := hD0.self (sz := s.heap.size)
  generalize hAe : va_A [(q0, .inr (8, [.ref q1, .ref q2, .ref q3, .ref q4, .int 1, .int 0, .int 0, .int 0, .int 0]))] s.heap.size = A at hD hE ⊢
  have hN : q_N s := hE.2.2.2.1
  have hA : ∀ q : Nat, s.heap.size ≤ q → A q := fun q h => by rw [← hAe]; exact Or.inr h
  have hS : va_S A s.heap s.heap [] := va_S.rf
  have hP : va_P (dC, dI) classes [(q0, .inr (8, [.ref q1, .ref q2, .ref q3, .ref q4, .int 1, .int 0, .int 0, .int 0, .int 0]))] s.heap := hP
  have hl := lv_entry ([.ref q0]) (n := 1) (Nat.le_of_ble_eq_true rfl)
  rw [lg_entry_eq]
  generalize (lg_sl ([.ref q0]) ++ List.replicate (1 - (lg_sl ([.ref q0])).length) Slot.unset).toArray = ls at hl ⊢
  have hl : lv_has ls 1 [(0, .ref q0)] := hl
  refine lv_aload_n hx hb dX8_kind_0 rfl (lv_at hl 0 rfl) ?_
  refine va_get (D := (dC, dI)) (ci := 8) (v := .int 0) (C := RX8) (T := TX8) (N := 9) hx hb hts (fun w h => mc (in_X8 w h)) hown hK hP 0 rfl rfl 6 (by decide) (hts _ (mc m_107)) (fun _ h9 => h9) rfl dX8_kind_1 ?_
  exact W.iret (v := 0) hx hb hr (fun t ht hW => ⟨⟨0, (), rfl, rfl, by rw [ht]; exact hP, va_K.moved hW.alike hK, hD⟩, hS.F ht⟩) hS.2.2 dX8_kind_4
set_option maxHeartbeats 4000000 in
set_option maxRecDepth 100000 in
theorem c_X6_startsAtom_0 (l : Launch) (dC : Nat → ClassId) (dI : Nat → Nat → Nat) (q0 : Nat) (q1 : Nat) (q2 : Nat) (q3 : Nat) (q4 : Nat) (q5 : Nat) (q6 : Nat) (q7 : Nat) (sz : Nat) : Met l yX6_startsAtom (.code yX6_startsAtom cX6_startsAtom 1 (some .boolean) :: bigW) { frames := 1, cells := 0, slots := 0, locals := 20 } (va_Pc [.ref q0] (q_In dC dI [(q0, .inr (6, [.ref q1, .ref q2, .ref q3, .ref q4, .int 0, .int (-1)])), (q3, .inr (8, [.ref q1, .ref q5, .ref q6, .ref q7, .int 1, .int 0, .int 0, .int 0, .int 0]))] [] sz)) (va_Qi (fun (r9 : Int32) (_ : Unit) => r9 = 0) (fun _ t => va_P (dC, dI) classes [(q0, .inr (6, [.ref q1, .ref q2, .ref q3, .ref q4, .int 0, .int (-1)])), (q3, .inr (8, [.ref q1, .ref q5, .ref q6, .ref q7, .int 1, .int 0, .int 0, .int 0, .int 0]))] t.heap ∧ va_K (dC, dI) classes [] t ∧ va_D (va_A [(q0, .inr (6, [.ref q1, .ref q2, .ref q3, .ref q4, .int 0, .int (-1)])), (q3, .inr (8, [.ref q1, .ref q5, .ref q6, .ref q7, .int 1, .int 0, .int 0, .int 0, .int 0]))] sz) [(q0, .inr (6, [.ref q1, .ref q2, .ref q3, .ref q4, .int 0, .int (-1)])), (q3, .inr (8, [.ref q1, .ref q5, .ref q6, .ref q7, .int 1, .int 0, .int 0, .int 0, .int 0]))]) (va_A [(q0, .inr (6, [.ref q1, .ref q2, .ref q3, .ref q4, .int 0, .int (-1)])), (q3, .inr (8, [.ref q1, .ref q5, .ref q6, .ref q7, .int 1, .int 0, .int 0, .int 0, .int 0]))] sz)) 0 0 (va_A [(q0, .inr (6, [.ref q1, .ref q2, .ref q3, .ref q4, .int 0, .int (-1)])), (q3, .inr (8, [.ref q1, .ref q5, .ref q6, .ref q7, .int 1, .int 0, .int 0, .int 0, .int 0]))] sz) := by
  refine Met.ofW (cc := cX6_startsAtom) (maxL := 1) (ret := (some .boolean)) (by decide) rfl ?_
  intro p e s m args below meth c s₁ B hml hv
  obtain ⟨rfl, hsz, hP, hK, hD0, hE⟩ := hv
  have hx := B.exec
  have hb := B.bytes
  have hr := B.returns
  have hts := atoms_spec (ws := .code yX6_startsAtom cX6_startsAtom 1 (some .boolean) :: bigW) B.pre
  have hown : s.vm.findClass RX6 = some m.cls := findClass_of_methodNamed B.named
  have hlocks := B.notSynchronized
  subst hsz
  have hD := hD0.self (sz := s.heap.size)
  generalize hAe : va_A [(q0, .inr (6, [.ref q1, .ref q2, .ref q3, .ref q4, .int 0, .int (-1)])), (q3, .inr (8, [.ref q1, .ref q5, .ref q6, .ref q7, .int 1, .int 0, .int 0, .int 0, .int 0]))] s.heap.size = A at hD hE ⊢
  have hN : q_N s := hE.2.2.2.1
  have hA : ∀ q : Nat, s.heap.size ≤ q → A q := fun q h => by rw [← hAe]; exact Or.inr h
  have hS : va_S A s.heap s.heap [] := va_S.rf
  have hP : va_P (dC, dI) classes [(q0, .inr (6, [.ref q1, .ref q2, .ref q3, .ref q4, .int 0, .int (-1)])), (q3, .inr (8, [.ref q1, .ref q5, .ref q6, .ref q7, .int 1, .int 0, .int 0, .int 0, .int 0]))] s.heap := hP
  have hl := lv_entry ([.ref q0]) (n := 1) (Nat.le_of_ble_eq_true rfl)
  rw [lg_entry_eq]
  generalize (lg_sl ([.ref q0]) ++ List.replicate (1 - (lg_sl ([.ref q0])).length) Slot.unset).toArray = ls at hl ⊢
  have hl : lv_has ls 1 [(0, .ref q0)] := hl
  refine lv_aload_n hx hb dX6_startsAtom_0 rfl (lv_at hl 0 rfl) ?_
  refine va_get (D := (dC, dI)) (ci := 6) (v := .ref q3) (C := RX6) (T := TX6) (N := 6) hx hb hts (fun w h => mc (in_X6 w h)) hown hK hP 0 rfl rfl 2 (by decide) (hts _ (mc m_113)) (fun _ h9 => h9) rfl dX6_startsAtom_1 ?_
  have hPc := hP.sub (ws' := [(q3, .inr (8, [.ref q1, .ref q5, .ref q6, .ref q7, .int 1, .int 0, .int 0, .int 0, .int 0]))]) [1] rfl
  have hDc := hD.sub (ws' := [(q3, .inr (8, [.ref q1, .ref q5, .ref q6, .ref q7, .int 1, .int 0, .int 0, .int 0, .int 0]))]) [1] (by decide) rfl
  have hKc := hK.sub (tys' := []) [] rfl
  have hFc := va_free (wc := [(q3, .inr (8, [.ref q1, .ref q5, .ref q6, .ref q7, .int 1, .int 0, .int 0, .int 0, .int 0]))]) hD hS hA [1] rfl
  refine va_calli (va_runV (As := []) (rest := []) ⟨hx, hb, hml, hown, hts⟩ (c_X8_kind_0 l dC dI q3 q1 q5 q6 q7 s.heap.size) (cwV 0 hts (gV m_318 m_319 m_320 m_99 m_317) rfl rfl rfl (by decide +kernel) ⟨Nat.le_of_ble_eq_true rfl, Nat.le_of_ble_eq_true rfl⟩) ⟨q_bl, va_recv hKc hPc (ci := 8) (q0 := 0) rfl rfl, q_pre hPc hKc hDc hE hS hFc⟩ rfl rfl hl.1 rfl (lv_room (Nat.le_of_ble_eq_true rfl)) dX6_startsAtom_4 ⟨Nat.le_of_ble_eq_true rfl, Nat.le_of_ble_eq_true rfl⟩) hS (fun q _ h => hFc q h) hFc (fun r9 u t H1 locs ht hvm hw hB hz1 hk1 hS => ?_)
  obtain ⟨hP1, hK1, hD1⟩ := hB
  rw [ht] at hP1
  have hK1 := va_K.moved hvm.symm hK1
  obtain ⟨hP, hD⟩ := va_join (wr := [(q0, .inr (6, [.ref q1, .ref q2, .ref q3, .ref q4, .int 0, .int (-1)]))]) (w1 := [(q3, .inr (8, [.ref q1, .ref q5, .ref q6, .ref q7, .int 1, .int 0, .int 0, .int 0, .int 0]))]) hP hD [1] [0] rfl rfl (by decide) (by decide) hk1 hFc hP1 hD1
  have hK := (hK.sub (tys' := []) [] rfl).app hK1
  generalize H1 = H at hP hS ⊢
  have hP : va_P (dC, dI) classes [(q0, .inr (6, [.ref q1, .ref q2, .ref q3, .ref q4, .int 0, .int (-1)])), (q3, .inr (8, [.ref q1, .ref q5, .ref q6, .ref q7, .int 1, .int 0, .int 0, .int 0, .int 0]))] H := hP
  have hD : va_D A [(q0, .inr (6, [.ref q1, .ref q2, .ref q3, .ref q4, .int 0, .int (-1)])), (q3, .inr (8, [.ref q1, .ref q5, .ref q6, .ref q7, .int 1, .int 0, .int 0, .int 0, .int 0]))] := hD
  have hK : va_K (dC, dI) classes [] s := hK
  rw [hw]
  refine lv_lookup (off := 67) (tgt := 74) hx hb dX6_startsAtom_7 (by decide) (by decide) (by decide) ?_
  refine lv_iconst (v := 0) hx hb dX6_startsAtom_74 (by decide) ?_
  exact W.zret (v := 0) hx hb hr (by first | rfl | decide) (fun t ht hW => ⟨⟨0, (), rfl, rfl, by rw [ht]; exact hP, va_K.moved hW.alike hK, hD⟩, hS.F ht⟩) hS.2.2 dX6_startsAtom_75
set_option maxHeartbeats 4000000 in
set_option maxRecDepth 100000 in
theorem c_X6_startsExpression_0 (l : Launch) (dC : Nat → ClassId) (dI : Nat → Nat → Nat) (q0 : Nat) (q1 : Nat) (q2 : Nat) (q3 : Nat) (q4 : Nat) (q5 : Nat) (q6 : Nat) (q7 : Nat) (sz : Nat) : Met l yX6_startsExpression (.code yX6_startsExpression cX6_startsExpression 1 (some .boolean) :: bigW) { frames := 2, cells := 0, slots := 0, locals := 40 } (va_Pc [.ref q0] (q_In dC dI [(q0, .inr (6, [.ref q1, .ref q2, .ref q3, .ref q4, .int 0, .int (-1)])), (q3, .inr (8, [.ref q1, .ref q5, .ref q6, .ref q7, .int 1, .int 0, .int 0, .int 0, .int 0]))] [] sz)) (va_Qi (fun (r9 : Int32) (_ : Unit) => r9 = 0) (fun _ t => va_P (dC, dI) classes [(q0, .inr (6, [.ref q1, .ref q2, .ref q3, .ref q4, .int 0, .int (-1)])), (q3, .inr (8, [.ref q1, .ref q5, .ref q6, .ref q7, .int 1, .int 0, .int 0, .int 0, .int 0]))] t.heap ∧ va_K (dC, dI) classes [] t ∧ va_D (va_A [(q0, .inr (6, [.ref q1, .ref q2, .ref q3, .ref q4, .int 0, .int (-1)])), (q3, .inr (8, [.ref q1, .ref q5, .ref q6, .ref q7, .int 1, .int 0, .int 0, .int 0, .int 0]))] sz) [(q0, .inr (6, [.ref q1, .ref q2, .ref q3, .ref q4, .int 0, .int (-1)])), (q3, .inr (8, [.ref q1, .ref q5, .ref q6, .ref q7, .int 1, .int 0, .int 0, .int 0, .int 0]))]) (va_A [(q0, .inr (6, [.ref q1, .ref q2, .ref q3, .ref q4, .int 0, .int (-1)])), (q3, .inr (8, [.ref q1, .ref q5, .ref q6, .ref q7, .int 1, .int 0, .int 0, .int 0, .int 0]))] sz)) 0 0 (va_A [(q0, .inr (6, [.ref q1, .ref q2, .ref q3, .ref q4, .int 0, .int (-1)])), (q3, .inr (8, [.ref q1, .ref q5, .ref q6, .ref q7, .int 1, .int 0, .int 0, .int 0, .int 0]))] sz) := by
  refine Met.ofW (cc := cX6_startsExpression) (maxL := 1) (ret := (some .boolean)) (by decide) rfl ?_
  intro p e s m args below meth c s₁ B hml hv
  obtain ⟨rfl, hsz, hP, hK, hD0, hE⟩ := hv
  have hx := B.exec
  have hb := B.bytes
  have hr := B.returns
  have hts := atoms_spec (ws := .code yX6_startsExpression cX6_startsExpression 1 (some .boolean) :: bigW) B.pre
  have hown : s.vm.findClass RX6 = some m.cls := findClass_of_methodNamed B.named
  have hlocks := B.notSynchronized
  subst hsz
  have hD := hD0.self (sz := s.heap.size)
  generalize hAe : va_A [(q0, .inr (6, [.ref q1, .ref q2, .ref q3, .ref q4, .int 0, .int (-1)])), (q3, .inr (8, [.ref q1, .ref q5, .ref q6, .ref q7, .int 1, .int 0, .int 0, .int 0, .int 0]))] s.heap.size = A at hD hE ⊢
  have hN : q_N s := hE.2.2.2.1
  have hA : ∀ q : Nat, s.heap.size ≤ q → A q := fun q h => by rw [← hAe]; exact Or.inr h
  have hS : va_S A s.heap s.heap [] := va_S.rf
  have hP : va_P (dC, dI) classes [(q0, .inr (6, [.ref q1, .ref q2, .ref q3, .ref q4, .int 0, .int (-1)])), (q3, .inr (8, [.ref q1, .ref q5, .ref q6, .ref q7, .int 1, .int 0, .int 0, .int 0, .int 0]))] s.heap := hP
  have hl := lv_entry ([.ref q0]) (n := 1) (Nat.le_of_ble_eq_true rfl)
  rw [lg_entry_eq]
  generalize (lg_sl ([.ref q0]) ++ List.replicate (1 - (lg_sl ([.ref q0])).length) Slot.unset).toArray = ls at hl ⊢
  have hl : lv_has ls 1 [(0, .ref q0)] := hl
  refine lv_aload_n hx hb dX6_startsExpression_0 rfl (lv_at hl 0 rfl) ?_
  refine va_get (D := (dC, dI)) (ci := 6) (v := .ref q3) (C := RX6) (T := TX6) (N := 6) hx hb hts (fun w h => mc (in_X6 w h)) hown hK hP 0 rfl rfl 2 (by decide) (hts _ (mc m_113)) (fun _ h9 => h9) rfl dX6_startsExpression_1 ?_
  have hPc := hP.sub (ws' := [(q3, .inr (8, [.ref q1, .ref q5, .ref q6, .ref q7, .int 1, .int 0, .int 0, .int 0, .int 0]))]) [1] rfl
  have hDc := hD.sub (ws' := [(q3, .inr (8, [.ref q1, .ref q5, .ref q6, .ref q7, .int 1, .int 0, .int 0, .int 0, .int 0]))]) [1] (by decide) rfl
  have hKc := hK.sub (tys' := []) [] rfl
  have hFc := va_free (wc := [(q3, .inr (8, [.ref q1, .ref q5, .ref q6, .ref q7, .int 1, .int 0, .int 0, .int 0, .int 0]))]) hD hS hA [1] rfl
  refine va_calli (va_runV (As := []) (rest := []) ⟨hx, hb, hml, hown, hts⟩ (c_X8_kind_0 l dC dI q3 q1 q5 q6 q7 s.heap.size) (cwV 0 hts (gV m_318 m_319 m_320 m_99 m_317) rfl rfl rfl (by decide +kernel) ⟨Nat.le_of_ble_eq_true rfl, Nat.le_of_ble_eq_true rfl⟩) ⟨q_bl, va_recv hKc hPc (ci := 8) (q0 := 0) rfl rfl, q_pre hPc hKc hDc hE hS hFc⟩ rfl rfl hl.1 rfl (lv_room (Nat.le_of_ble_eq_true rfl)) dX6_startsExpression_4 ⟨Nat.le_of_ble_eq_true rfl, Nat.le_of_ble_eq_true rfl⟩) hS (fun q _ h => hFc q h) hFc (fun r9 u t H1 locs ht hvm hw hB hz1 hk1 hS => ?_)
  obtain ⟨hP1, hK1, hD1⟩ := hB
  rw [ht] at hP1
  have hK1 := va_K.moved hvm.symm hK1
  obtain ⟨hP, hD⟩ := va_join (wr := [(q0, .inr (6, [.ref q1, .ref q2, .ref q3, .ref q4, .int 0, .int (-1)]))]) (w1 := [(q3, .inr (8, [.ref q1, .ref q5, .ref q6, .ref q7, .int 1, .int 0, .int 0, .int 0, .int 0]))]) hP hD [1] [0] rfl rfl (by decide) (by decide) hk1 hFc hP1 hD1
  have hK := (hK.sub (tys' := []) [] rfl).app hK1
  generalize H1 = H at hP hS ⊢
  have hP : va_P (dC, dI) classes [(q0, .inr (6, [.ref q1, .ref q2, .ref q3, .ref q4, .int 0, .int (-1)])), (q3, .inr (8, [.ref q1, .ref q5, .ref q6, .ref q7, .int 1, .int 0, .int 0, .int 0, .int 0]))] H := hP
  have hD : va_D A [(q0, .inr (6, [.ref q1, .ref q2, .ref q3, .ref q4, .int 0, .int (-1)])), (q3, .inr (8, [.ref q1, .ref q5, .ref q6, .ref q7, .int 1, .int 0, .int 0, .int 0, .int 0]))] := hD
  have hK : va_K (dC, dI) classes [] s := hK
  rw [hw]
  refine lv_lookup (off := 43) (tgt := 50) hx hb dX6_startsExpression_7 (by decide) (by decide) (by decide) ?_
  refine lv_aload_n hx hb dX6_startsExpression_50 rfl (lv_at hl 0 rfl) ?_
  have hPc := hP.sub (ws' := [(q0, .inr (6, [.ref q1, .ref q2, .ref q3, .ref q4, .int 0, .int (-1)])), (q3, .inr (8, [.ref q1, .ref q5, .ref q6, .ref q7, .int 1, .int 0, .int 0, .int 0, .int 0]))]) [0, 1] rfl
  have hDc := hD.sub (ws' := [(q0, .inr (6, [.ref q1, .ref q2, .ref q3, .ref q4, .int 0, .int (-1)])), (q3, .inr (8, [.ref q1, .ref q5, .ref q6, .ref q7, .int 1, .int 0, .int 0, .int 0, .int 0]))]) [0, 1] (by decide) rfl
  have hKc := hK.sub (tys' := []) [] rfl
  have hFc := va_free (wc := [(q0, .inr (6, [.ref q1, .ref q2, .ref q3, .ref q4, .int 0, .int (-1)])), (q3, .inr (8, [.ref q1, .ref q5, .ref q6, .ref q7, .int 1, .int 0, .int 0, .int 0, .int 0]))]) hD hS hA [0, 1] rfl
  refine va_calli (va_runV (As := []) (rest := []) ⟨hx, hb, hml, hown, hts⟩ (c_X6_startsAtom_0 l dC dI q0 q1 q2 q3 q4 q5 q6 q7 H.size) (cwV 0 hts (gV m_322 m_323 m_324 m_89 m_321) rfl rfl rfl (by decide +kernel) ⟨Nat.le_of_ble_eq_true rfl, Nat.le_of_ble_eq_true rfl⟩) ⟨q_bl, va_recv hKc hPc (ci := 6) (q0 := 0) rfl rfl, q_pre hPc hKc hDc hE hS hFc⟩ rfl rfl hl.1 rfl (lv_room (Nat.le_of_ble_eq_true rfl)) dX6_startsExpression_51 ⟨Nat.le_of_ble_eq_true rfl, Nat.le_of_ble_eq_true rfl⟩) hS (fun q _ h => hFc q h) hFc (fun r9 u t H1 locs ht hvm hw hB hz1 hk1 hS => ?_)
  obtain ⟨hP1, hK1, hD1⟩ := hB
  rw [ht] at hP1
  have hK1 := va_K.moved hvm.symm hK1
  obtain ⟨hP, hD⟩ := va_join (wr := []) (w1 := [(q0, .inr (6, [.ref q1, .ref q2, .ref q3, .ref q4, .int 0, .int (-1)])), (q3, .inr (8, [.ref q1, .ref q5, .ref q6, .ref q7, .int 1, .int 0, .int 0, .int 0, .int 0]))]) hP hD [0, 1] [] rfl rfl (by decide) (by decide) hk1 hFc hP1 hD1
  have hK := (hK.sub (tys' := []) [] rfl).app hK1
  generalize H1 = H at hP hS ⊢
  have hP : va_P (dC, dI) classes [(q0, .inr (6, [.ref q1, .ref q2, .ref q3, .ref q4, .int 0, .int (-1)])), (q3, .inr (8, [.ref q1, .ref q5, .ref q6, .ref q7, .int 1, .int 0, .int 0, .int 0, .int 0]))] H := hP
  have hD : va_D A [(q0, .inr (6, [.ref q1, .ref q2, .ref q3, .ref q4, .int 0, .int (-1)])), (q3, .inr (8, [.ref q1, .ref q5, .ref q6, .ref q7, .int 1, .int 0, .int 0, .int 0, .int 0]))] := hD
  have hK : va_K (dC, dI) classes [] s := hK
  rw [hw]
  exact W.zret (v := 0) hx hb hr (by first | rfl | decide) (fun t ht hW => ⟨⟨0, (), rfl, rfl, by rw [ht]; exact hP, va_K.moved hW.alike hK, hD⟩, hS.F ht⟩) hS.2.2 dX6_startsExpression_54
set_option maxHeartbeats 4000000 in
set_option maxRecDepth 100000 in
theorem c_X8_start_0 (l : Launch) (dC : Nat → ClassId) (dI : Nat → Nat → Nat) (q0 : Nat) (q1 : Nat) (q2 : Nat) (q3 : Nat) (q4 : Nat) (sz : Nat) : Met l yX8_start (.code yX8_start cX8_start 1 (some .int) :: bigW) { frames := 0, cells := 0, slots := 0, locals := 0 } (va_Pc [.ref q0] (q_In dC dI [(q0, .inr (8, [.ref q1, .ref q2, .ref q3, .ref q4, .int 1, .int 0, .int 0, .int 0, .int 0]))] [] sz)) (va_Qi (fun (r9 : Int32) (_ : Unit) => r9 = 0) (fun _ t => va_P (dC, dI) classes [(q0, .inr (8, [.ref q1, .ref q2, .ref q3, .ref q4, .int 1, .int 0, .int 0, .int 0, .int 0]))] t.heap ∧ va_K (dC, dI) classes [] t ∧ va_D (va_A [(q0, .inr (8, [.ref q1, .ref q2, .ref q3, .ref q4, .int 1, .int 0, .int 0, .int 0, .int 0]))] sz) [(q0, .inr (8, [.ref q1, .ref q2, .ref q3, .ref q4, .int 1, .int 0, .int 0, .int 0, .int 0]))]) (va_A [(q0, .inr (8, [.ref q1, .ref q2, .ref q3, .ref q4, .int 1, .int 0, .int 0, .int 0, .int 0]))] sz)) 0 0 (va_A [(q0, .inr (8, [.ref q1, .ref q2, .ref q3, .ref q4, .int 1, .int 0, .int 0, .int 0, .int 0]))] sz) := by
  refine Met.ofW (cc := cX8_start) (maxL := 1) (ret := (some .int)) (by decide) rfl ?_
  intro p e s m args below meth c s₁ B hml hv
  obtain ⟨rfl, hsz, hP, hK, hD0, hE⟩ := hv
  have hx := B.exec
  have hb := B.bytes
  have hr := B.returns
  have hts := atoms_spec (ws := .code yX8_start cX8_start 1 (some .int) :: bigW) B.pre
  have hown : s.vm.findClass RX8 = some m.cls := findClass_of_methodNamed B.named
  have hlocks := B.notSynchronized
  subst hsz
  have hD := hD0.self (sz := s.heap.size)
  generalize hAe : va_A [(q0, .inr (8, [.ref q1, .ref q2, .ref q3, .ref q4, .int 1, .int 0, .int 0, .int 0, .int 0]))] s.heap.size = A at hD hE ⊢
  have hN : q_N s := hE.2.2.2.1
  have hA : ∀ q : Nat, s.heap.size ≤ q → A q := fun q h => by rw [← hAe]; exact Or.inr h
  have hS : va_S A s.heap s.heap [] := va_S.rf
  have hP : va_P (dC, dI) classes [(q0, .inr (8, [.ref q1, .ref q2, .ref q3, .ref q4, .int 1, .int 0, .int 0, .int 0, .int 0]))] s.heap := hP
  have hl := lv_entry ([.ref q0]) (n := 1) (Nat.le_of_ble_eq_true rfl)
  rw [lg_entry_eq]
  generalize (lg_sl ([.ref q0]) ++ List.replicate (1 - (lg_sl ([.ref q0])).length) Slot.unset).toArray = ls at hl ⊢
  have hl : lv_has ls 1 [(0, .ref q0)] := hl
  refine lv_aload_n hx hb dX8_start_0 rfl (lv_at hl 0 rfl) ?_
  refine va_get (D := (dC, dI)) (ci := 8) (v := .int 0) (C := RX8) (T := TX8) (N := 9) hx hb hts (fun w h => mc (in_X8 w h)) hown hK hP 0 rfl rfl 7 (by decide) (hts _ (mc m_108)) (fun _ h9 => h9) rfl dX8_start_1 ?_
  exact W.iret (v := 0) hx hb hr (fun t ht hW => ⟨⟨0, (), rfl, rfl, by rw [ht]; exact hP, va_K.moved hW.alike hK, hD⟩, hS.F ht⟩) hS.2.2 dX8_start_4
set_option maxHeartbeats 4000000 in
set_option maxRecDepth 100000 in
theorem c_X7_refuse_0 (l : Launch) (dC : Nat → ClassId) (dI : Nat → Nat → Nat) (q0 : Nat) (q1 : Nat) (q2 : Nat) (q3 : Nat) (q4 : Nat) (q5 : Nat) (q6 : Nat) (q7 : Nat) (q8 : Nat) (q9 : Nat) (q10 : Nat) (q11 : Nat) (sz : Nat) : Met l yX7_refuse (.code yX7_refuse cX7_refuse 3 none :: bigW) { frames := 0, cells := 0, slots := 0, locals := 0 } (va_Pc [.ref q0, .int 1, .int 0] (q_In dC dI [(q0, .inr (7, [.ref q1, .int 0, .ref q2, .ref q3, .ref q4, .ref q5, .ref q6, .ref q7, .ref q8, .ref q9, .int 0, .int (-1), .int 0, .int (-1), .ref q10, .ref q11]))] [] sz)) (va_Qv (fun _ : Unit => True) (fun _ t => va_P (dC, dI) classes [(q0, .inr (7, [.ref q1, .int 0, .ref q2, .ref q3, .ref q4, .ref q5, .ref q6, .ref q7, .ref q8, .ref q9, .int 0, .int (-1), .int 1, .int 0, .ref q10, .ref q11]))] t.heap ∧ va_K (dC, dI) classes [] t ∧ va_D (va_A [(q0, .inr (7, [.ref q1, .int 0, .ref q2, .ref q3, .ref q4, .ref q5, .ref q6, .ref q7, .ref q8, .ref q9, .int 0, .int (-1), .int 0, .int (-1), .ref q10, .ref q11]))] sz) [(q0, .inr (7, [.ref q1, .int 0, .ref q2, .ref q3, .ref q4, .ref q5, .ref q6, .ref q7, .ref q8, .ref q9, .int 0, .int (-1), .int 1, .int 0, .ref q10, .ref q11]))]) (va_A [(q0, .inr (7, [.ref q1, .int 0, .ref q2, .ref q3, .ref q4, .ref q5, .ref q6, .ref q7, .ref q8, .ref q9, .int 0, .int (-1), .int 0, .int (-1), .ref q10, .ref q11]))] sz)) 0 0 (va_A [(q0, .inr (7, [.ref q1, .int 0, .ref q2, .ref q3, .ref q4, .ref q5, .ref q6, .ref q7, .ref q8, .ref q9, .int 0, .int (-1), .int 0, .int (-1), .ref q10, .ref q11]))] sz) := by
  refine Met.ofW (cc := cX7_refuse) (maxL := 3) (ret := none) (by decide) rfl ?_
  intro p e s m args below meth c s₁ B hml hv
  obtain ⟨rfl, hsz, hP, hK, hD0, hE⟩ := hv
  have hx := B.exec
  have hb := B.bytes
  have hr := B.returns
  have hts := atoms_spec (ws := .code yX7_refuse cX7_refuse 3 none :: bigW) B.pre
  have hown : s.vm.findClass RX7 = some m.cls := findClass_of_methodNamed B.named
  have hlocks := B.notSynchronized
  subst hsz
  have hD := hD0.self (sz := s.heap.size)
  generalize hAe : va_A [(q0, .inr (7, [.ref q1, .int 0, .ref q2, .ref q3, .ref q4, .ref q5, .ref q6, .ref q7, .ref q8, .ref q9, .int 0, .int (-1), .int 0, .int (-1), .ref q10, .ref q11]))] s.heap.size = A at hD hE ⊢
  have hN : q_N s := hE.2.2.2.1
  have hA : ∀ q : Nat, s.heap.size ≤ q → A q := fun q h => by rw [← hAe]; exact Or.inr h
  have hS : va_S A s.heap s.heap [] := va_S.rf
  have hP : va_P (dC, dI) classes [(q0, .inr (7, [.ref q1, .int 0, .ref q2, .ref q3, .ref q4, .ref q5, .ref q6, .ref q7, .ref q8, .ref q9, .int 0, .int (-1), .int 0, .int (-1), .ref q10, .ref q11]))] s.heap := hP
  have hl := lv_entry ([.ref q0, .int 1, .int 0]) (n := 3) (Nat.le_of_ble_eq_true rfl)
  rw [lg_entry_eq]
  generalize (lg_sl ([.ref q0, .int 1, .int 0]) ++ List.replicate (3 - (lg_sl ([.ref q0, .int 1, .int 0])).length) Slot.unset).toArray = ls at hl ⊢
  have hl : lv_has ls 3 [(0, .ref q0), (1, .int 1), (2, .int 0)] := hl
  refine lv_aload_n hx hb dX7_refuse_0 rfl (lv_at hl 0 rfl) ?_
  refine va_get (D := (dC, dI)) (ci := 7) (v := .int 0) (C := RX7) (T := TX7) (N := 16) hx hb hts (fun w h => mc (in_X7 w h)) hown hK hP 0 rfl rfl 12 (by decide) (hts _ (mc m_33)) (fun _ h9 => h9) rfl dX7_refuse_1 ?_
  refine lv_if_ne (tgt := 17) hx hb dX7_refuse_4 (by decide) (fun c9 => absurd (by decide) c9) (fun _ => ?_)
  refine lv_aload_n hx hb dX7_refuse_7 rfl (lv_at hl 0 rfl) ?_
  refine lv_iload_n hx hb dX7_refuse_8 rfl (lv_at hl 1 rfl) ?_
  refine va_put (D := (dC, dI)) (ci := 7) (v := .int 1) (ty := .int) (C := RX7) (T := TX7) (N := 16) hx hb hts (fun w h => mc (in_X7 w h)) tyX7 tyX7_ok nmX7 hown hK hP hD hS 0 rfl rfl 12 (by decide) (hts _ (mc m_33)) (fun _ h9 => h9) rfl (by decide +kernel) (by first | rfl | decide) (by first | rfl | decide) (Nat.le_of_ble_eq_true rfl) dX7_refuse_9 (fun H locs hP hD hS => ?_)
  have hP : va_P (dC, dI) classes [(q0, .inr (7, [.ref q1, .int 0, .ref q2, .ref q3, .ref q4, .ref q5, .ref q6, .ref q7, .ref q8, .ref q9, .int 0, .int (-1), .int 1, .int (-1), .ref q10, .ref q11]))] H := hP
  have hD : va_D A [(q0, .inr (7, [.ref q1, .int 0, .ref q2, .ref q3, .ref q4, .ref q5, .ref q6, .ref q7, .ref q8, .ref q9, .int 0, .int (-1), .int 1, .int (-1), .ref q10, .ref q11]))] := hD
  refine lv_aload_n hx hb dX7_refuse_12 rfl (lv_at hl 0 rfl) ?_
  refine lv_iload_n hx hb dX7_refuse_13 rfl (lv_at hl 2 rfl) ?_
  refine va_put (D := (dC, dI)) (ci := 7) (v := .int 0) (ty := .int) (C := RX7) (T := TX7) (N := 16) hx hb hts (fun w h => mc (in_X7 w h)) tyX7 tyX7_ok nmX7 hown hK hP hD hS 0 rfl rfl 13 (by decide) (hts _ (mc m_34)) (fun _ h9 => h9) rfl (by decide +kernel) (by first | rfl | decide) (by first | rfl | decide) (Nat.le_of_ble_eq_true rfl) dX7_refuse_14 (fun H locs hP hD hS => ?_)
  have hP : va_P (dC, dI) classes [(q0, .inr (7, [.ref q1, .int 0, .ref q2, .ref q3, .ref q4, .ref q5, .ref q6, .ref q7, .ref q8, .ref q9, .int 0, .int (-1), .int 1, .int 0, .ref q10, .ref q11]))] H := hP
  have hD : va_D A [(q0, .inr (7, [.ref q1, .int 0, .ref q2, .ref q3, .ref q4, .ref q5, .ref q6, .ref q7, .ref q8, .ref q9, .int 0, .int (-1), .int 1, .int 0, .ref q10, .ref q11]))] := hD
  exact W.vret hx hb hr (fun t ht hW => ⟨⟨(), rfl, trivial, by rw [ht]; exact hP, va_K.moved hW.alike hK, hD⟩, hS.F ht⟩) hS.2.2 dX7_refuse_17
set_option maxHeartbeats 4000000 in
set_option maxRecDepth 100000 in
theorem c_X8_stop_0 (l : Launch) (dC : Nat → ClassId) (dI : Nat → Nat → Nat) (q0 : Nat) (q1 : Nat) (q2 : Nat) (q3 : Nat) (q4 : Nat) (sz : Nat) : Met l yX8_stop (.code yX8_stop cX8_stop 1 none :: bigW) { frames := 0, cells := 0, slots := 0, locals := 0 } (va_Pc [.ref q0] (q_In dC dI [(q0, .inr (8, [.ref q1, .ref q2, .ref q3, .ref q4, .int 1, .int 0, .int 0, .int 0, .int 0]))] [] sz)) (va_Qv (fun _ : Unit => True) (fun _ t => va_P (dC, dI) classes [(q0, .inr (8, [.ref q1, .ref q2, .ref q3, .ref q4, .int 1, .int 0, .int 2, .int 0, .int 0]))] t.heap ∧ va_K (dC, dI) classes [] t ∧ va_D (va_A [(q0, .inr (8, [.ref q1, .ref q2, .ref q3, .ref q4, .int 1, .int 0, .int 0, .int 0, .int 0]))] sz) [(q0, .inr (8, [.ref q1, .ref q2, .ref q3, .ref q4, .int 1, .int 0, .int 2, .int 0, .int 0]))]) (va_A [(q0, .inr (8, [.ref q1, .ref q2, .ref q3, .ref q4, .int 1, .int 0, .int 0, .int 0, .int 0]))] sz)) 0 0 (va_A [(q0, .inr (8, [.ref q1, .ref q2, .ref q3, .ref q4, .int 1, .int 0, .int 0, .int 0, .int 0]))] sz) := by
  refine Met.ofW (cc := cX8_stop) (maxL := 1) (ret := none) (by decide) rfl ?_
  intro p e s m args below meth c s₁ B hml hv
  obtain ⟨rfl, hsz, hP, hK, hD0, hE⟩ := hv
  have hx := B.exec
  have hb := B.bytes
  have hr := B.returns
  have hts := atoms_spec (ws := .code yX8_stop cX8_stop 1 none :: bigW) B.pre
  have hown : s.vm.findClass RX8 = some m.cls := findClass_of_methodNamed B.named
  have hlocks := B.notSynchronized
  subst hsz
  have hD := hD0.self (sz := s.heap.size)
  generalize hAe : va_A [(q0, .inr (8, [.ref q1, .ref q2, .ref q3, .ref q4, .int 1, .int 0, .int 0, .int 0, .int 0]))] s.heap.size = A at hD hE ⊢
  have hN : q_N s := hE.2.2.2.1
  have hA : ∀ q : Nat, s.heap.size ≤ q → A q := fun q h => by rw [← hAe]; exact Or.inr h
  have hS : va_S A s.heap s.heap [] := va_S.rf
  have hP : va_P (dC, dI) classes [(q0, .inr (8, [.ref q1, .ref q2, .ref q3, .ref q4, .int 1, .int 0, .int 0, .int 0, .int 0]))] s.heap := hP
  have hl := lv_entry ([.ref q0]) (n := 1) (Nat.le_of_ble_eq_true rfl)
  rw [lg_entry_eq]
  generalize (lg_sl ([.ref q0]) ++ List.replicate (1 - (lg_sl ([.ref q0])).length) Slot.unset).toArray = ls at hl ⊢
  have hl : lv_has ls 1 [(0, .ref q0)] := hl
  refine lv_aload_n hx hb dX8_stop_0 rfl (lv_at hl 0 rfl) ?_
  refine lv_iconst (v := 2) hx hb dX8_stop_1 (by decide) ?_
  refine va_put (D := (dC, dI)) (ci := 8) (v := .int 2) (ty := .int) (C := RX8) (T := TX8) (N := 9) hx hb hts (fun w h => mc (in_X8 w h)) tyX8 tyX8_ok nmX8 hown hK hP hD hS 0 rfl rfl 6 (by decide) (hts _ (mc m_107)) (fun _ h9 => h9) rfl (by decide +kernel) (by first | rfl | decide) (by first | rfl | decide) (Nat.le_of_ble_eq_true rfl) dX8_stop_2 (fun H locs hP hD hS => ?_)
  have hP : va_P (dC, dI) classes [(q0, .inr (8, [.ref q1, .ref q2, .ref q3, .ref q4, .int 1, .int 0, .int 2, .int 0, .int 0]))] H := hP
  have hD : va_D A [(q0, .inr (8, [.ref q1, .ref q2, .ref q3, .ref q4, .int 1, .int 0, .int 2, .int 0, .int 0]))] := hD
  exact W.vret hx hb hr (fun t ht hW => ⟨⟨(), rfl, trivial, by rw [ht]; exact hP, va_K.moved hW.alike hK, hD⟩, hS.F ht⟩) hS.2.2 dX8_stop_5
set_option maxHeartbeats 4000000 in
set_option maxRecDepth 100000 in
theorem c_X6_refuse_0 (l : Launch) (dC : Nat → ClassId) (dI : Nat → Nat → Nat) (q0 : Nat) (q1 : Nat) (q2 : Nat) (q3 : Nat) (q4 : Nat) (q5 : Nat) (q6 : Nat) (q7 : Nat) (q8 : Nat) (q9 : Nat) (q10 : Nat) (q11 : Nat) (q12 : Nat) (q13 : Nat) (q14 : Nat) (q15 : Nat) (q16 : Nat) (q17 : Nat) (sz : Nat) : Met l yX6_refuse (.code yX6_refuse cX6_refuse 2 (some .int) :: bigW) { frames := 1, cells := 0, slots := 0, locals := 22 } (va_Pc [.ref q0, .int 1] (q_In dC dI [(q0, .inr (6, [.ref q1, .ref q2, .ref q3, .ref q4, .int 0, .int (-1)])), (q1, .inr (7, [.ref q5, .int 0, .ref q6, .ref q7, .ref q8, .ref q9, .ref q10, .ref q11, .ref q12, .ref q13, .int 0, .int (-1), .int 0, .int (-1), .ref q14, .ref q2])), (q3, .inr (8, [.ref q1, .ref q15, .ref q16, .ref q17, .int 1, .int 0, .int 0, .int 0, .int 0]))] [] sz)) (va_Qi (fun (r9 : Int32) (_ : Unit) => r9 = (-1)) (fun _ t => va_P (dC, dI) classes [(q0, .inr (6, [.ref q1, .ref q2, .ref q3, .ref q4, .int 0, .int (-1)])), (q1, .inr (7, [.ref q5, .int 0, .ref q6, .ref q7, .ref q8, .ref q9, .ref q10, .ref q11, .ref q12, .ref q13, .int 0, .int (-1), .int 1, .int 0, .ref q14, .ref q2])), (q3, .inr (8, [.ref q1, .ref q15, .ref q16, .ref q17, .int 1, .int 0, .int 2, .int 0, .int 0]))] t.heap ∧ va_K (dC, dI) classes [] t ∧ va_D (va_A [(q0, .inr (6, [.ref q1, .ref q2, .ref q3, .ref q4, .int 0, .int (-1)])), (q1, .inr (7, [.ref q5, .int 0, .ref q6, .ref q7, .ref q8, .ref q9, .ref q10, .ref q11, .ref q12, .ref q13, .int 0, .int (-1), .int 0, .int (-1), .ref q14, .ref q2])), (q3, .inr (8, [.ref q1, .ref q15, .ref q16, .ref q17, .int 1, .int 0, .int 0, .int 0, .int 0]))] sz) [(q0, .inr (6, [.ref q1, .ref q2, .ref q3, .ref q4, .int 0, .int (-1)])), (q1, .inr (7, [.ref q5, .int 0, .ref q6, .ref q7, .ref q8, .ref q9, .ref q10, .ref q11, .ref q12, .ref q13, .int 0, .int (-1), .int 1, .int 0, .ref q14, .ref q2])), (q3, .inr (8, [.ref q1, .ref q15, .ref q16, .ref q17, .int 1, .int 0, .int 2, .int 0, .int 0]))]) (va_A [(q0, .inr (6, [.ref q1, .ref q2, .ref q3, .ref q4, .int 0, .int (-1)])), (q1, .inr (7, [.ref q5, .int 0, .ref q6, .ref q7, .ref q8, .ref q9, .ref q10, .ref q11, .ref q12, .ref q13, .int 0, .int (-1), .int 0, .int (-1), .ref q14, .ref q2])), (q3, .inr (8, [.ref q1, .ref q15, .ref q16, .ref q17, .int 1, .int 0, .int 0, .int 0, .int 0]))] sz)) 0 0 (va_A [(q0, .inr (6, [.ref q1, .ref q2, .ref q3, .ref q4, .int 0, .int (-1)])), (q1, .inr (7, [.ref q5, .int 0, .ref q6, .ref q7, .ref q8, .ref q9, .ref q10, .ref q11, .ref q12, .ref q13, .int 0, .int (-1), .int 0, .int (-1), .ref q14, .ref q2])), (q3, .inr (8, [.ref q1, .ref q15, .ref q16, .ref q17, .int 1, .int 0, .int 0, .int 0, .int 0]))] sz) := by
  refine Met.ofW (cc := cX6_refuse) (maxL := 2) (ret := (some .int)) (by decide) rfl ?_
  intro p e s m args below meth c s₁ B hml hv
  obtain ⟨rfl, hsz, hP, hK, hD0, hE⟩ := hv
  have hx := B.exec
  have hb := B.bytes
  have hr := B.returns
  have hts := atoms_spec (ws := .code yX6_refuse cX6_refuse 2 (some .int) :: bigW) B.pre
  have hown : s.vm.findClass RX6 = some m.cls := findClass_of_methodNamed B.named
  have hlocks := B.notSynchronized
  subst hsz
  have hD := hD0.self (sz := s.heap.size)
  generalize hAe : va_A [(q0, .inr (6, [.ref q1, .ref q2, .ref q3, .ref q4, .int 0, .int (-1)])), (q1, .inr (7, [.ref q5, .int 0, .ref q6, .ref q7, .ref q8, .ref q9, .ref q10, .ref q11, .ref q12, .ref q13, .int 0, .int (-1), .int 0, .int (-1), .ref q14, .ref q2])), (q3, .inr (8, [.ref q1, .ref q15, .ref q16, .ref q17, .int 1, .int 0, .int 0, .int 0, .int 0]))] s.heap.size = A at hD hE ⊢
  have hN : q_N s := hE.2.2.2.1
  have hA : ∀ q : Nat, s.heap.size ≤ q → A q := fun q h => by rw [← hAe]; exact Or.inr h
  have hS : va_S A s.heap s.heap [] := va_S.rf
  have hP : va_P (dC, dI) classes [(q0, .inr (6, [.ref q1, .ref q2, .ref q3, .ref q4, .int 0, .int (-1)])), (q1, .inr (7, [.ref q5, .int 0, .ref q6, .ref q7, .ref q8, .ref q9, .ref q10, .ref q11, .ref q12, .ref q13, .int 0, .int (-1), .int 0, .int (-1), .ref q14, .ref q2])), (q3, .inr (8, [.ref q1, .ref q15, .ref q16, .ref q17, .int 1, .int 0, .int 0, .int 0, .int 0]))] s.heap := hP
  have hl := lv_entry ([.ref q0, .int 1]) (n := 2) (Nat.le_of_ble_eq_true rfl)
  rw [lg_entry_eq]
  generalize (lg_sl ([.ref q0, .int 1]) ++ List.replicate (2 - (lg_sl ([.ref q0, .int 1])).length) Slot.unset).toArray = ls at hl ⊢
  have hl : lv_has ls 2 [(0, .ref q0), (1, .int 1)] := hl
  refine lv_aload_n hx hb dX6_refuse_0 rfl (lv_at hl 0 rfl) ?_
  refine va_get (D := (dC, dI)) (ci := 6) (v := .ref q3) (C := RX6) (T := TX6) (N := 6) hx hb hts (fun w h => mc (in_X6 w h)) hown hK hP 0 rfl rfl 2 (by decide) (hts _ (mc m_113)) (fun _ h9 => h9) rfl dX6_refuse_1 ?_
  have hPc := hP.sub (ws' := [(q3, .inr (8, [.ref q1, .ref q15, .ref q16, .ref q17, .int 1, .int 0, .int 0, .int 0, .int 0]))]) [2] rfl
  have hDc := hD.sub (ws' := [(q3, .inr (8, [.ref q1, .ref q15, .ref q16, .ref q17, .int 1, .int 0, .int 0, .int 0, .int 0]))]) [2] (by decide) rfl
  have hKc := hK.sub (tys' := []) [] rfl
  have hFc := va_free (wc := [(q3, .inr (8, [.ref q1, .ref q15, .ref q16, .ref q17, .int 1, .int 0, .int 0, .int 0, .int 0]))]) hD hS hA [2] rfl
  refine va_calli (va_runV (As := []) (rest := []) ⟨hx, hb, hml, hown, hts⟩ (c_X8_kind_0 l dC dI q3 q1 q15 q16 q17 s.heap.size) (cwV 0 hts (gV m_318 m_319 m_320 m_99 m_317) rfl rfl rfl (by decide +kernel) ⟨Nat.le_of_ble_eq_true rfl, Nat.le_of_ble_eq_true rfl⟩) ⟨q_bl, va_recv hKc hPc (ci := 8) (q0 := 0) rfl rfl, q_pre hPc hKc hDc hE hS hFc⟩ rfl rfl hl.1 rfl (lv_room (Nat.le_of_ble_eq_true rfl)) dX6_refuse_4 ⟨Nat.le_of_ble_eq_true rfl, Nat.le_of_ble_eq_true rfl⟩) hS (fun q _ h => hFc q h) hFc (fun r9 u t H1 locs ht hvm hw hB hz1 hk1 hS => ?_)
  obtain ⟨hP1, hK1, hD1⟩ := hB
  rw [ht] at hP1
  have hK1 := va_K.moved hvm.symm hK1
  obtain ⟨hP, hD⟩ := va_join (wr := [(q0, .inr (6, [.ref q1, .ref q2, .ref q3, .ref q4, .int 0, .int (-1)])), (q1, .inr (7, [.ref q5, .int 0, .ref q6, .ref q7, .ref q8, .ref q9, .ref q10, .ref q11, .ref q12, .ref q13, .int 0, .int (-1), .int 0, .int (-1), .ref q14, .ref q2]))]) (w1 := [(q3, .inr (8, [.ref q1, .ref q15, .ref q16, .ref q17, .int 1, .int 0, .int 0, .int 0, .int 0]))]) hP hD [2] [0, 1] rfl rfl (by decide) (by decide) hk1 hFc hP1 hD1
  have hK := (hK.sub (tys' := []) [] rfl).app hK1
  generalize H1 = H at hP hS ⊢
  have hP : va_P (dC, dI) classes [(q0, .inr (6, [.ref q1, .ref q2, .ref q3, .ref q4, .int 0, .int (-1)])), (q1, .inr (7, [.ref q5, .int 0, .ref q6, .ref q7, .ref q8, .ref q9, .ref q10, .ref q11, .ref q12, .ref q13, .int 0, .int (-1), .int 0, .int (-1), .ref q14, .ref q2])), (q3, .inr (8, [.ref q1, .ref q15, .ref q16, .ref q17, .int 1, .int 0, .int 0, .int 0, .int 0]))] H := hP
  have hD : va_D A [(q0, .inr (6, [.ref q1, .ref q2, .ref q3, .ref q4, .int 0, .int (-1)])), (q1, .inr (7, [.ref q5, .int 0, .ref q6, .ref q7, .ref q8, .ref q9, .ref q10, .ref q11, .ref q12, .ref q13, .int 0, .int (-1), .int 0, .int (-1), .ref q14, .ref q2])), (q3, .inr (8, [.ref q1, .ref q15, .ref q16, .ref q17, .int 1, .int 0, .int 0, .int 0, .int 0]))] := hD
  have hK : va_K (dC, dI) classes [] s := hK
  rw [hw]
  refine lv_iconst (v := 2) hx hb dX6_refuse_7 (by decide) ?_
  refine lv_icmp_eq (tgt := 33) hx hb dX6_refuse_8 (by decide) (fun c9 => absurd c9 (by decide)) (fun _ => ?_)
  refine lv_aload_n hx hb dX6_refuse_11 rfl (lv_at hl 0 rfl) ?_
  refine va_get (D := (dC, dI)) (ci := 6) (v := .ref q1) (C := RX6) (T := TX6) (N := 6) hx hb hts (fun w h => mc (in_X6 w h)) hown hK hP 0 rfl rfl 0 (by decide) (hts _ (mc m_91)) (fun _ h9 => h9) rfl dX6_refuse_12 ?_
  refine lv_iload_n hx hb dX6_refuse_15 rfl (lv_at hl 1 rfl) ?_
  refine lv_aload_n hx hb dX6_refuse_16 rfl (lv_at hl 0 rfl) ?_
  refine va_get (D := (dC, dI)) (ci := 6) (v := .ref q3) (C := RX6) (T := TX6) (N := 6) hx hb hts (fun w h => mc (in_X6 w h)) hown hK hP 0 rfl rfl 2 (by decide) (hts _ (mc m_113)) (fun _ h9 => h9) rfl dX6_refuse_17 ?_
  have hPc := hP.sub (ws' := [(q3, .inr (8, [.ref q1, .ref q15, .ref q16, .ref q17, .int 1, .int 0, .int 0, .int 0, .int 0]))]) [2] rfl
  have hDc := hD.sub (ws' := [(q3, .inr (8, [.ref q1, .ref q15, .ref q16, .ref q17, .int 1, .int 0, .int 0, .int 0, .int 0]))]) [2] (by decide) rfl
  have hKc := hK.sub (tys' := []) [] rfl
  have hFc := va_free (wc := [(q3, .inr (8, [.ref q1, .ref q15, .ref q16, .ref q17, .int 1, .int 0, .int 0, .int 0, .int 0]))]) hD hS hA [2] rfl
  refine va_calli (va_runV (As := []) (rest := [.int 1, .ref q1]) ⟨hx, hb, hml, hown, hts⟩ (c_X8_start_0 l dC dI q3 q1 q15 q16 q17 H.size) (cwV 0 hts (gV m_330 m_331 m_332 m_99 m_329) rfl rfl rfl (by decide +kernel) ⟨Nat.le_of_ble_eq_true rfl, Nat.le_of_ble_eq_true rfl⟩) ⟨q_bl, va_recv hKc hPc (ci := 8) (q0 := 0) rfl rfl, q_pre hPc hKc hDc hE hS hFc⟩ rfl rfl hl.1 rfl (lv_room (Nat.le_of_ble_eq_true rfl)) dX6_refuse_20 ⟨Nat.le_of_ble_eq_true rfl, Nat.le_of_ble_eq_true rfl⟩) hS (fun q _ h => hFc q h) hFc (fun r9 u t H1 locs ht hvm hw hB hz1 hk1 hS => ?_)
  obtain ⟨hP1, hK1, hD1⟩ := hB
  rw [ht] at hP1
  have hK1 := va_K.moved hvm.symm hK1
  obtain ⟨hP, hD⟩ := va_join (wr := [(q0, .inr (6, [.ref q1, .ref q2, .ref q3, .ref q4, .int 0, .int (-1)])), (q1, .inr (7, [.ref q5, .int 0, .ref q6, .ref q7, .ref q8, .ref q9, .ref q10, .ref q11, .ref q12, .ref q13, .int 0, .int (-1), .int 0, .int (-1), .ref q14, .ref q2]))]) (w1 := [(q3, .inr (8, [.ref q1, .ref q15, .ref q16, .ref q17, .int 1, .int 0, .int 0, .int 0, .int 0]))]) hP hD [2] [0, 1] rfl rfl (by decide) (by decide) hk1 hFc hP1 hD1
  have hK := (hK.sub (tys' := []) [] rfl).app hK1
  generalize H1 = H at hP hS ⊢
  have hP : va_P (dC, dI) classes [(q0, .inr (6, [.ref q1, .ref q2, .ref q3, .ref q4, .int 0, .int (-1)])), (q1, .inr (7, [.ref q5, .int 0, .ref q6, .ref q7, .ref q8, .ref q9, .ref q10, .ref q11, .ref q12, .ref q13, .int 0, .int (-1), .int 0, .int (-1), .ref q14, .ref q2])), (q3, .inr (8, [.ref q1, .ref q15, .ref q16, .ref q17, .int 1, .int 0, .int 0, .int 0, .int 0]))] H := hP
  have hD : va_D A [(q0, .inr (6, [.ref q1, .ref q2, .ref q3, .ref q4, .int 0, .int (-1)])), (q1, .inr (7, [.ref q5, .int 0, .ref q6, .ref q7, .ref q8, .ref q9, .ref q10, .ref q11, .ref q12, .ref q13, .int 0, .int (-1), .int 0, .int (-1), .ref q14, .ref q2])), (q3, .inr (8, [.ref q1, .ref q15, .ref q16, .ref q17, .int 1, .int 0, .int 0, .int 0, .int 0]))] := hD
  have hK : va_K (dC, dI) classes [] s := hK
  rw [hw]
  have hPc := hP.sub (ws' := [(q1, .inr (7, [.ref q5, .int 0, .ref q6, .ref q7, .ref q8, .ref q9, .ref q10, .ref q11, .ref q12, .ref q13, .int 0, .int (-1), .int 0, .int (-1), .ref q14, .ref q2]))]) [1] rfl
  have hDc := hD.sub (ws' := [(q1, .inr (7, [.ref q5, .int 0, .ref q6, .ref q7, .ref q8, .ref q9, .ref q10, .ref q11, .ref q12, .ref q13, .int 0, .int (-1), .int 0, .int (-1), .ref q14, .ref q2]))]) [1] (by decide) rfl
  have hKc := hK.sub (tys' := []) [] rfl
  have hFc := va_free (wc := [(q1, .inr (7, [.ref q5, .int 0, .ref q6, .ref q7, .ref q8, .ref q9, .ref q10, .ref q11, .ref q12, .ref q13, .int 0, .int (-1), .int 0, .int (-1), .ref q14, .ref q2]))]) hD hS hA [1] rfl
  refine va_callv (va_runV (As := [.int 1, .int 0]) (rest := []) ⟨hx, hb, hml, hown, hts⟩ (c_X7_refuse_0 l dC dI q1 q5 q6 q7 q8 q9 q10 q11 q12 q13 q14 q2 H.size) (cwV 2 hts (gV m_334 m_335 m_336 m_18 m_333) rfl rfl rfl (by decide +kernel) ⟨Nat.le_of_ble_eq_true rfl, Nat.le_of_ble_eq_true rfl⟩) ⟨q_bl, va_recv hKc hPc (ci := 7) (q0 := 0) rfl rfl, q_pre hPc hKc hDc hE hS hFc⟩ rfl rfl hl.1 rfl (lv_room (Nat.le_of_ble_eq_true rfl)) dX6_refuse_23 ⟨Nat.le_of_ble_eq_true rfl, Nat.le_of_ble_eq_true rfl⟩) hS (fun q _ h => hFc q h) hFc (fun u t H1 locs ht hvm hw hB hz1 hk1 hS => ?_)
  obtain ⟨hP1, hK1, hD1⟩ := hB
  rw [ht] at hP1
  have hK1 := va_K.moved hvm.symm hK1
  obtain ⟨hP, hD⟩ := va_join (wr := [(q0, .inr (6, [.ref q1, .ref q2, .ref q3, .ref q4, .int 0, .int (-1)])), (q3, .inr (8, [.ref q1, .ref q15, .ref q16, .ref q17, .int 1, .int 0, .int 0, .int 0, .int 0]))]) (w1 := [(q1, .inr (7, [.ref q5, .int 0, .ref q6, .ref q7, .ref q8, .ref q9, .ref q10, .ref q11, .ref q12, .ref q13, .int 0, .int (-1), .int 1, .int 0, .ref q14, .ref q2]))]) hP hD [1] [0, 2] rfl rfl (by decide) (by decide) hk1 hFc hP1 hD1
  have hK := (hK.sub (tys' := []) [] rfl).app hK1
  generalize H1 = H at hP hS ⊢
  have hP : va_P (dC, dI) classes [(q0, .inr (6, [.ref q1, .ref q2, .ref q3, .ref q4, .int 0, .int (-1)])), (q3, .inr (8, [.ref q1, .ref q15, .ref q16, .ref q17, .int 1, .int 0, .int 0, .int 0, .int 0])), (q1, .inr (7, [.ref q5, .int 0, .ref q6, .ref q7, .ref q8, .ref q9, .ref q10, .ref q11, .ref q12, .ref q13, .int 0, .int (-1), .int 1, .int 0, .ref q14, .ref q2]))] H := hP
  have hD : va_D A [(q0, .inr (6, [.ref q1, .ref q2, .ref q3, .ref q4, .int 0, .int (-1)])), (q3, .inr (8, [.ref q1, .ref q15, .ref q16, .ref q17, .int 1, .int 0, .int 0, .int 0, .int 0])), (q1, .inr (7, [.ref q5, .int 0, .ref q6, .ref q7, .ref q8, .ref q9, .ref q10, .ref q11, .ref q12, .ref q13, .int 0, .int (-1), .int 1, .int 0, .ref q14, .ref q2]))] := hD
  have hK : va_K (dC, dI) classes [] s := hK
  refine lv_aload_n hx hb dX6_refuse_26 rfl (lv_at hl 0 rfl) ?_
  refine va_get (D := (dC, dI)) (ci := 6) (v := .ref q3) (C := RX6) (T := TX6) (N := 6) hx hb hts (fun w h => mc (in_X6 w h)) hown hK hP 0 rfl rfl 2 (by decide) (hts _ (mc m_113)) (fun _ h9 => h9) rfl dX6_refuse_27 ?_
  have hPc := hP.sub (ws' := [(q3, .inr (8, [.ref q1, .ref q15, .ref q16, .ref q17, .int 1, .int 0, .int 0, .int 0, .int 0]))]) [1] rfl
  have hDc := hD.sub (ws' := [(q3, .inr (8, [.ref q1, .ref q15, .ref q16, .ref q17, .int 1, .int 0, .int 0, .int 0, .int 0]))]) [1] (by decide) rfl
  have hKc := hK.sub (tys' := []) [] rfl
  have hFc := va_free (wc := [(q3, .inr (8, [.ref q1, .ref q15, .ref q16, .ref q17, .int 1, .int 0, .int 0, .int 0, .int 0]))]) hD hS hA [1] rfl
  refine va_callv (va_runV (As := []) (rest := []) ⟨hx, hb, hml, hown, hts⟩ (c_X8_stop_0 l dC dI q3 q1 q15 q16 q17 H.size) (cwV 0 hts (gV m_338 m_339 m_340 m_99 m_337) rfl rfl rfl (by decide +kernel) ⟨Nat.le_of_ble_eq_true rfl, Nat.le_of_ble_eq_true rfl⟩) ⟨q_bl, va_recv hKc hPc (ci := 8) (q0 := 0) rfl rfl, q_pre hPc hKc hDc hE hS hFc⟩ rfl rfl hl.1 rfl (lv_room (Nat.le_of_ble_eq_true rfl)) dX6_refuse_30 ⟨Nat.le_of_ble_eq_true rfl, Nat.le_of_ble_eq_true rfl⟩) hS (fun q _ h => hFc q h) hFc (fun u t H1 locs ht hvm hw hB hz1 hk1 hS => ?_)
  obtain ⟨hP1, hK1, hD1⟩ := hB
  rw [ht] at hP1
  have hK1 := va_K.moved hvm.symm hK1
  obtain ⟨hP, hD⟩ := va_join (wr := [(q0, .inr (6, [.ref q1, .ref q2, .ref q3, .ref q4, .int 0, .int (-1)])), (q1, .inr (7, [.ref q5, .int 0, .ref q6, .ref q7, .ref q8, .ref q9, .ref q10, .ref q11, .ref q12, .ref q13, .int 0, .int (-1), .int 1, .int 0, .ref q14, .ref q2]))]) (w1 := [(q3, .inr (8, [.ref q1, .ref q15, .ref q16, .ref q17, .int 1, .int 0, .int 2, .int 0, .int 0]))]) hP hD [1] [0, 2] rfl rfl (by decide) (by decide) hk1 hFc hP1 hD1
  have hK := (hK.sub (tys' := []) [] rfl).app hK1
  generalize H1 = H at hP hS ⊢
  have hP : va_P (dC, dI) classes [(q0, .inr (6, [.ref q1, .ref q2, .ref q3, .ref q4, .int 0, .int (-1)])), (q1, .inr (7, [.ref q5, .int 0, .ref q6, .ref q7, .ref q8, .ref q9, .ref q10, .ref q11, .ref q12, .ref q13, .int 0, .int (-1), .int 1, .int 0, .ref q14, .ref q2])), (q3, .inr (8, [.ref q1, .ref q15, .ref q16, .ref q17, .int 1, .int 0, .int 2, .int 0, .int 0]))] H := hP
  have hD : va_D A [(q0, .inr (6, [.ref q1, .ref q2, .ref q3, .ref q4, .int 0, .int (-1)])), (q1, .inr (7, [.ref q5, .int 0, .ref q6, .ref q7, .ref q8, .ref q9, .ref q10, .ref q11, .ref q12, .ref q13, .int 0, .int (-1), .int 1, .int 0, .ref q14, .ref q2])), (q3, .inr (8, [.ref q1, .ref q15, .ref q16, .ref q17, .int 1, .int 0, .int 2, .int 0, .int 0]))] := hD
  have hK : va_K (dC, dI) classes [] s := hK
  refine lv_iconst (v := (-1)) hx hb dX6_refuse_33 (by decide) ?_
  exact W.iret (v := (-1)) hx hb hr (fun t ht hW => ⟨⟨(-1), (), rfl, rfl, by rw [ht]; exact hP, va_K.moved hW.alike hK, hD⟩, hS.F ht⟩) hS.2.2 dX6_refuse_34
set_option maxHeartbeats 4000000 in
set_option maxRecDepth 100000 in
theorem c_X6_expression_0 (l : Launch) (dC : Nat → ClassId) (dI : Nat → Nat → Nat) (q0 : Nat) (q1 : Nat) (q2 : Nat) (q3 : Nat) (q4 : Nat) (q5 : Nat) (q6 : Nat) (q7 : Nat) (q8 : Nat) (q9 : Nat) (q10 : Nat) (q11 : Nat) (q12 : Nat) (q13 : Nat) (q14 : Nat) (q15 : Nat) (q16 : Nat) (q17 : Nat) (sz : Nat) : Met l yX6_expression (.code yX6_expression cX6_expression 2 (some .int) :: bigW) { frames := 3, cells := 0, slots := 0, locals := 60 } (va_Pc [.ref q0, .int 1] (q_In dC dI [(q0, .inr (6, [.ref q1, .ref q2, .ref q3, .ref q4, .int 0, .int (-1)])), (q1, .inr (7, [.ref q5, .int 0, .ref q6, .ref q7, .ref q8, .ref q9, .ref q10, .ref q11, .ref q12, .ref q13, .int 0, .int (-1), .int 0, .int (-1), .ref q14, .ref q2])), (q3, .inr (8, [.ref q1, .ref q15, .ref q16, .ref q17, .int 1, .int 0, .int 0, .int 0, .int 0]))] [] sz)) (va_Qi (fun (r9 : Int32) (_ : Unit) => r9 = (-1)) (fun _ t => va_P (dC, dI) classes [(q0, .inr (6, [.ref q1, .ref q2, .ref q3, .ref q4, .int 0, .int (-1)])), (q1, .inr (7, [.ref q5, .int 0, .ref q6, .ref q7, .ref q8, .ref q9, .ref q10, .ref q11, .ref q12, .ref q13, .int 0, .int (-1), .int 1, .int 0, .ref q14, .ref q2])), (q3, .inr (8, [.ref q1, .ref q15, .ref q16, .ref q17, .int 1, .int 0, .int 2, .int 0, .int 0]))] t.heap ∧ va_K (dC, dI) classes [] t ∧ va_D (va_A [(q0, .inr (6, [.ref q1, .ref q2, .ref q3, .ref q4, .int 0, .int (-1)])), (q1, .inr (7, [.ref q5, .int 0, .ref q6, .ref q7, .ref q8, .ref q9, .ref q10, .ref q11, .ref q12, .ref q13, .int 0, .int (-1), .int 0, .int (-1), .ref q14, .ref q2])), (q3, .inr (8, [.ref q1, .ref q15, .ref q16, .ref q17, .int 1, .int 0, .int 0, .int 0, .int 0]))] sz) [(q0, .inr (6, [.ref q1, .ref q2, .ref q3, .ref q4, .int 0, .int (-1)])), (q1, .inr (7, [.ref q5, .int 0, .ref q6, .ref q7, .ref q8, .ref q9, .ref q10, .ref q11, .ref q12, .ref q13, .int 0, .int (-1), .int 1, .int 0, .ref q14, .ref q2])), (q3, .inr (8, [.ref q1, .ref q15, .ref q16, .ref q17, .int 1, .int 0, .int 2, .int 0, .int 0]))]) (va_A [(q0, .inr (6, [.ref q1, .ref q2, .ref q3, .ref q4, .int 0, .int (-1)])), (q1, .inr (7, [.ref q5, .int 0, .ref q6, .ref q7, .ref q8, .ref q9, .ref q10, .ref q11, .ref q12, .ref q13, .int 0, .int (-1), .int 0, .int (-1), .ref q14, .ref q2])), (q3, .inr (8, [.ref q1, .ref q15, .ref q16, .ref q17, .int 1, .int 0, .int 0, .int 0, .int 0]))] sz)) 0 0 (va_A [(q0, .inr (6, [.ref q1, .ref q2, .ref q3, .ref q4, .int 0, .int (-1)])), (q1, .inr (7, [.ref q5, .int 0, .ref q6, .ref q7, .ref q8, .ref q9, .ref q10, .ref q11, .ref q12, .ref q13, .int 0, .int (-1), .int 0, .int (-1), .ref q14, .ref q2])), (q3, .inr (8, [.ref q1, .ref q15, .ref q16, .ref q17, .int 1, .int 0, .int 0, .int 0, .int 0]))] sz) := by
  refine Met.ofW (cc := cX6_expression) (maxL := 2) (ret := (some .int)) (by decide) rfl ?_
  intro p e s m args below meth c s₁ B hml hv
  obtain ⟨rfl, hsz, hP, hK, hD0, hE⟩ := hv
  have hx := B.exec
  have hb := B.bytes
  have hr := B.returns
  have hts := atoms_spec (ws := .code yX6_expression cX6_expression 2 (some .int) :: bigW) B.pre
  have hown : s.vm.findClass RX6 = some m.cls := findClass_of_methodNamed B.named
  have hlocks := B.notSynchronized
  subst hsz
  have hD := hD0.self (sz := s.heap.size)
  generalize hAe : va_A [(q0, .inr (6, [.ref q1, .ref q2, .ref q3, .ref q4, .int 0, .int (-1)])), (q1, .inr (7, [.ref q5, .int 0, .ref q6, .ref q7, .ref q8, .ref q9, .ref q10, .ref q11, .ref q12, .ref q13, .int 0, .int (-1), .int 0, .int (-1), .ref q14, .ref q2])), (q3, .inr (8, [.ref q1, .ref q15, .ref q16, .ref q17, .int 1, .int 0, .int 0, .int 0, .int 0]))] s.heap.size = A at hD hE ⊢
  have hN : q_N s := hE.2.2.2.1
  have hA : ∀ q : Nat, s.heap.size ≤ q → A q := fun q h => by rw [← hAe]; exact Or.inr h
  have hS : va_S A s.heap s.heap [] := va_S.rf
  have hP : va_P (dC, dI) classes [(q0, .inr (6, [.ref q1, .ref q2, .ref q3, .ref q4, .int 0, .int (-1)])), (q1, .inr (7, [.ref q5, .int 0, .ref q6, .ref q7, .ref q8, .ref q9, .ref q10, .ref q11, .ref q12, .ref q13, .int 0, .int (-1), .int 0, .int (-1), .ref q14, .ref q2])), (q3, .inr (8, [.ref q1, .ref q15, .ref q16, .ref q17, .int 1, .int 0, .int 0, .int 0, .int 0]))] s.heap := hP
  have hl := lv_entry ([.ref q0, .int 1]) (n := 2) (Nat.le_of_ble_eq_true rfl)
  rw [lg_entry_eq]
  generalize (lg_sl ([.ref q0, .int 1]) ++ List.replicate (2 - (lg_sl ([.ref q0, .int 1])).length) Slot.unset).toArray = ls at hl ⊢
  have hl : lv_has ls 2 [(0, .ref q0), (1, .int 1)] := hl
  refine lv_aload_n hx hb dX6_expression_0 rfl (lv_at hl 0 rfl) ?_
  have hPc := hP.sub (ws' := [(q0, .inr (6, [.ref q1, .ref q2, .ref q3, .ref q4, .int 0, .int (-1)])), (q3, .inr (8, [.ref q1, .ref q15, .ref q16, .ref q17, .int 1, .int 0, .int 0, .int 0, .int 0]))]) [0, 2] rfl
  have hDc := hD.sub (ws' := [(q0, .inr (6, [.ref q1, .ref q2, .ref q3, .ref q4, .int 0, .int (-1)])), (q3, .inr (8, [.ref q1, .ref q15, .ref q16, .ref q17, .int 1, .int 0, .int 0, .int 0, .int 0]))]) [0, 2] (by decide) rfl
  have hKc := hK.sub (tys' := []) [] rfl
  have hFc := va_free (wc := [(q0, .inr (6, [.ref q1, .ref q2, .ref q3, .ref q4, .int 0, .int (-1)])), (q3, .inr (8, [.ref q1, .ref q15, .ref q16, .ref q17, .int 1, .int 0, .int 0, .int 0, .int 0]))]) hD hS hA [0, 2] rfl
  refine va_calli (va_runV (As := []) (rest := []) ⟨hx, hb, hml, hown, hts⟩ (c_X6_startsExpression_0 l dC dI q0 q1 q2 q3 q4 q15 q16 q17 s.heap.size) (cwV 0 hts (gV m_326 m_327 m_328 m_89 m_325) rfl rfl rfl (by decide +kernel) ⟨Nat.le_of_ble_eq_true rfl, Nat.le_of_ble_eq_true rfl⟩) ⟨q_bl, va_recv hKc hPc (ci := 6) (q0 := 0) rfl rfl, q_pre hPc hKc hDc hE hS hFc⟩ rfl rfl hl.1 rfl (lv_room (Nat.le_of_ble_eq_true rfl)) dX6_expression_1 ⟨Nat.le_of_ble_eq_true rfl, Nat.le_of_ble_eq_true rfl⟩) hS (fun q _ h => hFc q h) hFc (fun r9 u t H1 locs ht hvm hw hB hz1 hk1 hS => ?_)
  obtain ⟨hP1, hK1, hD1⟩ := hB
  rw [ht] at hP1
  have hK1 := va_K.moved hvm.symm hK1
  obtain ⟨hP, hD⟩ := va_join (wr := [(q1, .inr (7, [.ref q5, .int 0, .ref q6, .ref q7, .ref q8, .ref q9, .ref q10, .ref q11, .ref q12, .ref q13, .int 0, .int (-1), .int 0, .int (-1), .ref q14, .ref q2]))]) (w1 := [(q0, .inr (6, [.ref q1, .ref q2, .ref q3, .ref q4, .int 0, .int (-1)])), (q3, .inr (8, [.ref q1, .ref q15, .ref q16, .ref q17, .int 1, .int 0, .int 0, .int 0, .int 0]))]) hP hD [0, 2] [1] rfl rfl (by decide) (by decide) hk1 hFc hP1 hD1
  have hK := (hK.sub (tys' := []) [] rfl).app hK1
  generalize H1 = H at hP hS ⊢
  have hP : va_P (dC, dI) classes [(q1, .inr (7, [.ref q5, .int 0, .ref q6, .ref q7, .ref q8, .ref q9, .ref q10, .ref q11, .ref q12, .ref q13, .int 0, .int (-1), .int 0, .int (-1), .ref q14, .ref q2])), (q0, .inr (6, [.ref q1, .ref q2, .ref q3, .ref q4, .int 0, .int (-1)])), (q3, .inr (8, [.ref q1, .ref q15, .ref q16, .ref q17, .int 1, .int 0, .int 0, .int 0, .int 0]))] H := hP
  have hD : va_D A [(q1, .inr (7, [.ref q5, .int 0, .ref q6, .ref q7, .ref q8, .ref q9, .ref q10, .ref q11, .ref q12, .ref q13, .int 0, .int (-1), .int 0, .int (-1), .ref q14, .ref q2])), (q0, .inr (6, [.ref q1, .ref q2, .ref q3, .ref q4, .int 0, .int (-1)])), (q3, .inr (8, [.ref q1, .ref q15, .ref q16, .ref q17, .int 1, .int 0, .int 0, .int 0, .int 0]))] := hD
  have hK : va_K (dC, dI) classes [] s := hK
  rw [hw]
  refine lv_if_ne (tgt := 13) hx hb dX6_expression_4 (by decide) (fun c9 => absurd (by decide) c9) (fun _ => ?_)
  refine lv_aload_n hx hb dX6_expression_7 rfl (lv_at hl 0 rfl) ?_
  refine lv_iconst (v := 1) hx hb dX6_expression_8 (by decide) ?_
  have hPc := hP.sub (ws' := [(q0, .inr (6, [.ref q1, .ref q2, .ref q3, .ref q4, .int 0, .int (-1)])), (q1, .inr (7, [.ref q5, .int 0, .ref q6, .ref q7, .ref q8, .ref q9, .ref q10, .ref q11, .ref q12, .ref q13, .int 0, .int (-1), .int 0, .int (-1), .ref q14, .ref q2])), (q3, .inr (8, [.ref q1, .ref q15, .ref q16, .ref q17, .int 1, .int 0, .int 0, .int 0, .int 0]))]) [1, 0, 2] rfl
  have hDc := hD.sub (ws' := [(q0, .inr (6, [.ref q1, .ref q2, .ref q3, .ref q4, .int 0, .int (-1)])), (q1, .inr (7, [.ref q5, .int 0, .ref q6, .ref q7, .ref q8, .ref q9, .ref q10, .ref q11, .ref q12, .ref q13, .int 0, .int (-1), .int 0, .int (-1), .ref q14, .ref q2])), (q3, .inr (8, [.ref q1, .ref q15, .ref q16, .ref q17, .int 1, .int 0, .int 0, .int 0, .int 0]))]) [1, 0, 2] (by decide) rfl
  have hKc := hK.sub (tys' := []) [] rfl
  have hFc := va_free (wc := [(q0, .inr (6, [.ref q1, .ref q2, .ref q3, .ref q4, .int 0, .int (-1)])), (q1, .inr (7, [.ref q5, .int 0, .ref q6, .ref q7, .ref q8, .ref q9, .ref q10, .ref q11, .ref q12, .ref q13, .int 0, .int (-1), .int 0, .int (-1), .ref q14, .ref q2])), (q3, .inr (8, [.ref q1, .ref q15, .ref q16, .ref q17, .int 1, .int 0, .int 0, .int 0, .int 0]))]) hD hS hA [1, 0, 2] rfl
  refine va_calli (va_runV (As := [.int 1]) (rest := []) ⟨hx, hb, hml, hown, hts⟩ (c_X6_refuse_0 l dC dI q0 q1 q2 q3 q4 q5 q6 q7 q8 q9 q10 q11 q12 q13 q14 q15 q16 q17 H.size) (cwV 1 hts (gV m_342 m_343 m_344 m_89 m_341) rfl rfl rfl (by decide +kernel) ⟨Nat.le_of_ble_eq_true rfl, Nat.le_of_ble_eq_true rfl⟩) ⟨q_bl, va_recv hKc hPc (ci := 6) (q0 := 0) rfl rfl, q_pre hPc hKc hDc hE hS hFc⟩ rfl rfl hl.1 rfl (lv_room (Nat.le_of_ble_eq_true rfl)) dX6_expression_9 ⟨Nat.le_of_ble_eq_true rfl, Nat.le_of_ble_eq_true rfl⟩) hS (fun q _ h => hFc q h) hFc (fun r9 u t H1 locs ht hvm hw hB hz1 hk1 hS => ?_)
  obtain ⟨hP1, hK1, hD1⟩ := hB
  rw [ht] at hP1
  have hK1 := va_K.moved hvm.symm hK1
  obtain ⟨hP, hD⟩ := va_join (wr := []) (w1 := [(q0, .inr (6, [.ref q1, .ref q2, .ref q3, .ref q4, .int 0, .int (-1)])), (q1, .inr (7, [.ref q5, .int 0, .ref q6, .ref q7, .ref q8, .ref q9, .ref q10, .ref q11, .ref q12, .ref q13, .int 0, .int (-1), .int 1, .int 0, .ref q14, .ref q2])), (q3, .inr (8, [.ref q1, .ref q15, .ref q16, .ref q17, .int 1, .int 0, .int 2, .int 0, .int 0]))]) hP hD [1, 0, 2] [] rfl rfl (by decide) (by decide) hk1 hFc hP1 hD1
  have hK := (hK.sub (tys' := []) [] rfl).app hK1
  generalize H1 = H at hP hS ⊢
  have hP : va_P (dC, dI) classes [(q0, .inr (6, [.ref q1, .ref q2, .ref q3, .ref q4, .int 0, .int (-1)])), (q1, .inr (7, [.ref q5, .int 0, .ref q6, .ref q7, .ref q8, .ref q9, .ref q10, .ref q11, .ref q12, .ref q13, .int 0, .int (-1), .int 1, .int 0, .ref q14, .ref q2])), (q3, .inr (8, [.ref q1, .ref q15, .ref q16, .ref q17, .int 1, .int 0, .int 2, .int 0, .int 0]))] H := hP
  have hD : va_D A [(q0, .inr (6, [.ref q1, .ref q2, .ref q3, .ref q4, .int 0, .int (-1)])), (q1, .inr (7, [.ref q5, .int 0, .ref q6, .ref q7, .ref q8, .ref q9, .ref q10, .ref q11, .ref q12, .ref q13, .int 0, .int (-1), .int 1, .int 0, .ref q14, .ref q2])), (q3, .inr (8, [.ref q1, .ref q15, .ref q16, .ref q17, .int 1, .int 0, .int 2, .int 0, .int 0]))] := hD
  have hK : va_K (dC, dI) classes [] s := hK
  rw [hw]
  exact W.iret (v := (-1)) hx hb hr (fun t ht hW => ⟨⟨(-1), (), rfl, rfl, by rw [ht]; exact hP, va_K.moved hW.alike hK, hD⟩, hS.F ht⟩) hS.2.2 dX6_expression_12
set_option maxHeartbeats 4000000 in
set_option maxRecDepth 100000 in
theorem c_X7_setRoot_0 (l : Launch) (dC : Nat → ClassId) (dI : Nat → Nat → Nat) (q0 : Nat) (q1 : Nat) (q2 : Nat) (q3 : Nat) (q4 : Nat) (q5 : Nat) (q6 : Nat) (q7 : Nat) (q8 : Nat) (q9 : Nat) (q10 : Nat) (q11 : Nat) (sz : Nat) : Met l yX7_setRoot (.code yX7_setRoot cX7_setRoot 2 none :: bigW) { frames := 0, cells := 0, slots := 0, locals := 0 } (va_Pc [.ref q0, .int (-1)] (q_In dC dI [(q0, .inr (7, [.ref q1, .int 0, .ref q2, .ref q3, .ref q4, .ref q5, .ref q6, .ref q7, .ref q8, .ref q9, .int 0, .int (-1), .int 1, .int 0, .ref q10, .ref q11]))] [] sz)) (va_Qv (fun _ : Unit => True) (fun _ t => va_P (dC, dI) classes [(q0, .inr (7, [.ref q1, .int 0, .ref q2, .ref q3, .ref q4, .ref q5, .ref q6, .ref q7, .ref q8, .ref q9, .int 0, .int (-1), .int 1, .int 0, .ref q10, .ref q11]))] t.heap ∧ va_K (dC, dI) classes [] t ∧ va_D (va_A [(q0, .inr (7, [.ref q1, .int 0, .ref q2, .ref q3, .ref q4, .ref q5, .ref q6, .ref q7, .ref q8, .ref q9, .int 0, .int (-1), .int 1, .int 0, .ref q10, .ref q11]))] sz) [(q0, .inr (7, [.ref q1, .int 0, .ref q2, .ref q3, .ref q4, .ref q5, .ref q6, .ref q7, .ref q8, .ref q9, .int 0, .int (-1), .int 1, .int 0, .ref q10, .ref q11]))]) (va_A [(q0, .inr (7, [.ref q1, .int 0, .ref q2, .ref q3, .ref q4, .ref q5, .ref q6, .ref q7, .ref q8, .ref q9, .int 0, .int (-1), .int 1, .int 0, .ref q10, .ref q11]))] sz)) 0 0 (va_A [(q0, .inr (7, [.ref q1, .int 0, .ref q2, .ref q3, .ref q4, .ref q5, .ref q6, .ref q7, .ref q8, .ref q9, .int 0, .int (-1), .int 1, .int 0, .ref q10, .ref q11]))] sz) := by
  refine Met.ofW (cc := cX7_setRoot) (maxL := 2) (ret := none) (by decide) rfl ?_
  intro p e s m args below meth c s₁ B hml hv
  obtain ⟨rfl, hsz, hP, hK, hD0, hE⟩ := hv
  have hx := B.exec
  have hb := B.bytes
  have hr := B.returns
  have hts := atoms_spec (ws := .code yX7_setRoot cX7_setRoot 2 none :: bigW) B.pre
  have hown : s.vm.findClass RX7 = some m.cls := findClass_of_methodNamed B.named
  have hlocks := B.notSynchronized
  subst hsz
  have hD := hD0.self (sz := s.heap.size)
  generalize hAe : va_A [(q0, .inr (7, [.ref q1, .int 0, .ref q2, .ref q3, .ref q4, .ref q5, .ref q6, .ref q7, .ref q8, .ref q9, .int 0, .int (-1), .int 1, .int 0, .ref q10, .ref q11]))] s.heap.size = A at hD hE ⊢
  have hN : q_N s := hE.2.2.2.1
  have hA : ∀ q : Nat, s.heap.size ≤ q → A q := fun q h => by rw [← hAe]; exact Or.inr h
  have hS : va_S A s.heap s.heap [] := va_S.rf
  have hP : va_P (dC, dI) classes [(q0, .inr (7, [.ref q1, .int 0, .ref q2, .ref q3, .ref q4, .ref q5, .ref q6, .ref q7, .ref q8, .ref q9, .int 0, .int (-1), .int 1, .int 0, .ref q10, .ref q11]))] s.heap := hP
  have hl := lv_entry ([.ref q0, .int (-1)]) (n := 2) (Nat.le_of_ble_eq_true rfl)
  rw [lg_entry_eq]
  generalize (lg_sl ([.ref q0, .int (-1)]) ++ List.replicate (2 - (lg_sl ([.ref q0, .int (-1)])).length) Slot.unset).toArray = ls at hl ⊢
  have hl : lv_has ls 2 [(0, .ref q0), (1, .int (-1))] := hl
  refine lv_aload_n hx hb dX7_setRoot_0 rfl (lv_at hl 0 rfl) ?_
  refine lv_iload_n hx hb dX7_setRoot_1 rfl (lv_at hl 1 rfl) ?_
  refine va_put (D := (dC, dI)) (ci := 7) (v := .int (-1)) (ty := .int) (C := RX7) (T := TX7) (N := 16) hx hb hts (fun w h => mc (in_X7 w h)) tyX7 tyX7_ok nmX7 hown hK hP hD hS 0 rfl rfl 11 (by decide) (hts _ (mc m_32)) (fun _ h9 => h9) rfl (by decide +kernel) (by first | rfl | decide) (by first | rfl | decide) (Nat.le_of_ble_eq_true rfl) dX7_setRoot_2 (fun H locs hP hD hS => ?_)
  have hP : va_P (dC, dI) classes [(q0, .inr (7, [.ref q1, .int 0, .ref q2, .ref q3, .ref q4, .ref q5, .ref q6, .ref q7, .ref q8, .ref q9, .int 0, .int (-1), .int 1, .int 0, .ref q10, .ref q11]))] H := hP
  have hD : va_D A [(q0, .inr (7, [.ref q1, .int 0, .ref q2, .ref q3, .ref q4, .ref q5, .ref q6, .ref q7, .ref q8, .ref q9, .int 0, .int (-1), .int 1, .int 0, .ref q10, .ref q11]))] := hD
  exact W.vret hx hb hr (fun t ht hW => ⟨⟨(), rfl, trivial, by rw [ht]; exact hP, va_K.moved hW.alike hK, hD⟩, hS.F ht⟩) hS.2.2 dX7_setRoot_5
set_option maxHeartbeats 4000000 in
set_option maxRecDepth 100000 in
theorem c_X8_kind_1 (l : Launch) (dC : Nat → ClassId) (dI : Nat → Nat → Nat) (q0 : Nat) (q1 : Nat) (q2 : Nat) (q3 : Nat) (q4 : Nat) (sz : Nat) : Met l yX8_kind (.code yX8_kind cX8_kind 1 (some .int) :: bigW) { frames := 0, cells := 0, slots := 0, locals := 0 } (va_Pc [.ref q0] (q_In dC dI [(q0, .inr (8, [.ref q1, .ref q2, .ref q3, .ref q4, .int 1, .int 0, .int 2, .int 0, .int 0]))] [] sz)) (va_Qi (fun (r9 : Int32) (_ : Unit) => r9 = 2) (fun _ t => va_P (dC, dI) classes [(q0, .inr (8, [.ref q1, .ref q2, .ref q3, .ref q4, .int 1, .int 0, .int 2, .int 0, .int 0]))] t.heap ∧ va_K (dC, dI) classes [] t ∧ va_D (va_A [(q0, .inr (8, [.ref q1, .ref q2, .ref q3, .ref q4, .int 1, .int 0, .int 2, .int 0, .int 0]))] sz) [(q0, .inr (8, [.ref q1, .ref q2, .ref q3, .ref q4, .int 1, .int 0, .int 2, .int 0, .int 0]))]) (va_A [(q0, .inr (8, [.ref q1, .ref q2, .ref q3, .ref q4, .int 1, .int 0, .int 2, .int 0, .int 0]))] sz)) 0 0 (va_A [(q0, .inr (8, [.ref q1, .ref q2, .ref q3, .ref q4, .int 1, .int 0, .int 2, .int 0, .int 0]))] sz) := by
  refine Met.ofW (cc := cX8_kind) (maxL := 1) (ret := (some .int)) (by decide) rfl ?_
  intro p e s m args below meth c s₁ B hml hv
  obtain ⟨rfl, hsz, hP, hK, hD0, hE⟩ := hv
  have hx := B.exec
  have hb := B.bytes
  have hr := B.returns
  have hts := atoms_spec (ws := .code yX8_kind cX8_kind 1 (some .int) :: bigW) B.pre
  have hown : s.vm.findClass RX8 = some m.cls := findClass_of_methodNamed B.named
  have hlocks := B.notSynchronized
  subst hsz
  have hD := hD0.self (sz := s.heap.size)
  generalize hAe : va_A [(q0, .inr (8, [.ref q1, .ref q2, .ref q3, .ref q4, .int 1, .int 0, .int 2, .int 0, .int 0]))] s.heap.size = A at hD hE ⊢
  have hN : q_N s := hE.2.2.2.1
  have hA : ∀ q : Nat, s.heap.size ≤ q → A q := fun q h => by rw [← hAe]; exact Or.inr h
  have hS : va_S A s.heap s.heap [] := va_S.rf
  have hP : va_P (dC, dI) classes [(q0, .inr (8, [.ref q1, .ref q2, .ref q3, .ref q4, .int 1, .int 0, .int 2, .int 0, .int 0]))] s.heap := hP
  have hl := lv_entry ([.ref q0]) (n := 1) (Nat.le_of_ble_eq_true rfl)
  rw [lg_entry_eq]
  generalize (lg_sl ([.ref q0]) ++ List.replicate (1 - (lg_sl ([.ref q0])).length) Slot.unset).toArray = ls at hl ⊢
  have hl : lv_has ls 1 [(0, .ref q0)] := hl
  refine lv_aload_n hx hb dX8_kind_0 rfl (lv_at hl 0 rfl) ?_
  refine va_get (D := (dC, dI)) (ci := 8) (v := .int 2) (C := RX8) (T := TX8) (N := 9) hx hb hts (fun w h => mc (in_X8 w h)) hown hK hP 0 rfl rfl 6 (by decide) (hts _ (mc m_107)) (fun _ h9 => h9) rfl dX8_kind_1 ?_
  exact W.iret (v := 2) hx hb hr (fun t ht hW => ⟨⟨2, (), rfl, rfl, by rw [ht]; exact hP, va_K.moved hW.alike hK, hD⟩, hS.F ht⟩) hS.2.2 dX8_kind_4
set_option maxHeartbeats 4000000 in
set_option maxRecDepth 100000 in
theorem c_X6_refuse_1 (l : Launch) (dC : Nat → ClassId) (dI : Nat → Nat → Nat) (q0 : Nat) (q1 : Nat) (q2 : Nat) (q3 : Nat) (q4 : Nat) (q5 : Nat) (q6 : Nat) (q7 : Nat) (sz : Nat) : Met l yX6_refuse (.code yX6_refuse cX6_refuse 2 (some .int) :: bigW) { frames := 1, cells := 0, slots := 0, locals := 20 } (va_Pc [.ref q0, .int 1] (q_In dC dI [(q0, .inr (6, [.ref q1, .ref q2, .ref q3, .ref q4, .int 0, .int (-1)])), (q3, .inr (8, [.ref q1, .ref q5, .ref q6, .ref q7, .int 1, .int 0, .int 2, .int 0, .int 0]))] [] sz)) (va_Qi (fun (r9 : Int32) (_ : Unit) => r9 = (-1)) (fun _ t => va_P (dC, dI) classes [(q0, .inr (6, [.ref q1, .ref q2, .ref q3, .ref q4, .int 0, .int (-1)])), (q3, .inr (8, [.ref q1, .ref q5, .ref q6, .ref q7, .int 1, .int 0, .int 2, .int 0, .int 0]))] t.heap ∧ va_K (dC, dI) classes [] t ∧ va_D (va_A [(q0, .inr (6, [.ref q1, .ref q2, .ref q3, .ref q4, .int 0, .int (-1)])), (q3, .inr (8, [.ref q1, .ref q5, .ref q6, .ref q7, .int 1, .int 0, .int 2, .int 0, .int 0]))] sz) [(q0, .inr (6, [.ref q1, .ref q2, .ref q3, .ref q4, .int 0, .int (-1)])), (q3, .inr (8, [.ref q1, .ref q5, .ref q6, .ref q7, .int 1, .int 0, .int 2, .int 0, .int 0]))]) (va_A [(q0, .inr (6, [.ref q1, .ref q2, .ref q3, .ref q4, .int 0, .int (-1)])), (q3, .inr (8, [.ref q1, .ref q5, .ref q6, .ref q7, .int 1, .int 0, .int 2, .int 0, .int 0]))] sz)) 0 0 (va_A [(q0, .inr (6, [.ref q1, .ref q2, .ref q3, .ref q4, .int 0, .int (-1)])), (q3, .inr (8, [.ref q1, .ref q5, .ref q6, .ref q7, .int 1, .int 0, .int 2, .int 0, .int 0]))] sz) := by
  refine Met.ofW (cc := cX6_refuse) (maxL := 2) (ret := (some .int)) (by decide) rfl ?_
  intro p e s m args below meth c s₁ B hml hv
  obtain ⟨rfl, hsz, hP, hK, hD0, hE⟩ := hv
  have hx := B.exec
  have hb := B.bytes
  have hr := B.returns
  have hts := atoms_spec (ws := .code yX6_refuse cX6_refuse 2 (some .int) :: bigW) B.pre
  have hown : s.vm.findClass RX6 = some m.cls := findClass_of_methodNamed B.named
  have hlocks := B.notSynchronized
  subst hsz
  have hD := hD0.self (sz := s.heap.size)
  generalize hAe : va_A [(q0, .inr (6, [.ref q1, .ref q2, .ref q3, .ref q4, .int 0, .int (-1)])), (q3, .inr (8, [.ref q1, .ref q5, .ref q6, .ref q7, .int 1, .int 0, .int 2, .int 0, .int 0]))] s.heap.size = A at hD hE ⊢
  have hN : q_N s := hE.2.2.2.1
  have hA : ∀ q : Nat, s.heap.size ≤ q → A q := fun q h => by rw [← hAe]; exact Or.inr h
  have hS : va_S A s.heap s.heap [] := va_S.rf
  have hP : va_P (dC, dI) classes [(q0, .inr (6, [.ref q1, .ref q2, .ref q3, .ref q4, .int 0, .int (-1)])), (q3, .inr (8, [.ref q1, .ref q5, .ref q6, .ref q7, .int 1, .int 0, .int 2, .int 0, .int 0]))] s.heap := hP
  have hl := lv_entry ([.ref q0, .int 1]) (n := 2) (Nat.le_of_ble_eq_true rfl)
  rw [lg_entry_eq]
  generalize (lg_sl ([.ref q0, .int 1]) ++ List.replicate (2 - (lg_sl ([.ref q0, .int 1])).length) Slot.unset).toArray = ls at hl ⊢
  have hl : lv_has ls 2 [(0, .ref q0), (1, .int 1)] := hl
  refine lv_aload_n hx hb dX6_refuse_0 rfl (lv_at hl 0 rfl) ?_
  refine va_get (D := (dC, dI)) (ci := 6) (v := .ref q3) (C := RX6) (T := TX6) (N := 6) hx hb hts (fun w h => mc (in_X6 w h)) hown hK hP 0 rfl rfl 2 (by decide) (hts _ (mc m_113)) (fun _ h9 => h9) rfl dX6_refuse_1 ?_
  have hPc := hP.sub (ws' := [(q3, .inr (8, [.ref q1, .ref q5, .ref q6, .ref q7, .int 1, .int 0, .int 2, .int 0, .int 0]))]) [1] rfl
  have hDc := hD.sub (ws' := [(q3, .inr (8, [.ref q1, .ref q5, .ref q6, .ref q7, .int 1, .int 0, .int 2, .int 0, .int 0]))]) [1] (by decide) rfl
  have hKc := hK.sub (tys' := []) [] rfl
  have hFc := va_free (wc := [(q3, .inr (8, [.ref q1, .ref q5, .ref q6, .ref q7, .int 1, .int 0, .int 2, .int 0, .int 0]))]) hD hS hA [1] rfl
  refine va_calli (va_runV (As := []) (rest := []) ⟨hx, hb, hml, hown, hts⟩ (c_X8_kind_1 l dC dI q3 q1 q5 q6 q7 s.heap.size) (cwV 0 hts (gV m_318 m_319 m_320 m_99 m_317) rfl rfl rfl (by decide +kernel) ⟨Nat.le_of_ble_eq_true rfl, Nat.le_of_ble_eq_true rfl⟩) ⟨q_bl, va_recv hKc hPc (ci := 8) (q0 := 0) rfl rfl, q_pre hPc hKc hDc hE hS hFc⟩ rfl rfl hl.1 rfl (lv_room (Nat.le_of_ble_eq_true rfl)) dX6_refuse_4 ⟨Nat.le_of_ble_eq_true rfl, Nat.le_of_ble_eq_true rfl⟩) hS (fun q _ h => hFc q h) hFc (fun r9 u t H1 locs ht hvm hw hB hz1 hk1 hS => ?_)
  obtain ⟨hP1, hK1, hD1⟩ := hB
  rw [ht] at hP1
  have hK1 := va_K.moved hvm.symm hK1
  obtain ⟨hP, hD⟩ := va_join (wr := [(q0, .inr (6, [.ref q1, .ref q2, .ref q3, .ref q4, .int 0, .int (-1)]))]) (w1 := [(q3, .inr (8, [.ref q1, .ref q5, .ref q6, .ref q7, .int 1, .int 0, .int 2, .int 0, .int 0]))]) hP hD [1] [0] rfl rfl (by decide) (by decide) hk1 hFc hP1 hD1
  have hK := (hK.sub (tys' := []) [] rfl).app hK1
  generalize H1 = H at hP hS ⊢
  have hP : va_P (dC, dI) classes [(q0, .inr (6, [.ref q1, .ref q2, .ref q3, .ref q4, .int 0, .int (-1)])), (q3, .inr (8, [.ref q1, .ref q5, .ref q6, .ref q7, .int 1, .int 0, .int 2, .int 0, .int 0]))] H := hP
  have hD : va_D A [(q0, .inr (6, [.ref q1, .ref q2, .ref q3, .ref q4, .int 0, .int (-1)])), (q3, .inr (8, [.ref q1, .ref q5, .ref q6, .ref q7, .int 1, .int 0, .int 2, .int 0, .int 0]))] := hD
  have hK : va_K (dC, dI) classes [] s := hK
  rw [hw]
  refine lv_iconst (v := 2) hx hb dX6_refuse_7 (by decide) ?_
  refine lv_icmp_eq (tgt := 33) hx hb dX6_refuse_8 (by decide) (fun _ => ?_) (fun c9 => absurd (by decide) c9)
  refine lv_iconst (v := (-1)) hx hb dX6_refuse_33 (by decide) ?_
  exact W.iret (v := (-1)) hx hb hr (fun t ht hW => ⟨⟨(-1), (), rfl, rfl, by rw [ht]; exact hP, va_K.moved hW.alike hK, hD⟩, hS.F ht⟩) hS.2.2 dX6_refuse_34
set_option maxHeartbeats 4000000 in
set_option maxRecDepth 100000 in
theorem c_X6_accept_0 (l : Launch) (dC : Nat → ClassId) (dI : Nat → Nat → Nat) (q0 : Nat) (q1 : Nat) (q2 : Nat) (q3 : Nat) (q4 : Nat) (q5 : Nat) (q6 : Nat) (q7 : Nat) (sz : Nat) : Met l yX6_accept (.code yX6_accept cX6_accept 2 none :: bigW) { frames := 2, cells := 0, slots := 0, locals := 41 } (va_Pc [.ref q0, .int 0] (q_In dC dI [(q0, .inr (6, [.ref q1, .ref q2, .ref q3, .ref q4, .int 0, .int (-1)])), (q3, .inr (8, [.ref q1, .ref q5, .ref q6, .ref q7, .int 1, .int 0, .int 2, .int 0, .int 0]))] [] sz)) (va_Qv (fun _ : Unit => True) (fun _ t => va_P (dC, dI) classes [(q0, .inr (6, [.ref q1, .ref q2, .ref q3, .ref q4, .int 0, .int (-1)])), (q3, .inr (8, [.ref q1, .ref q5, .ref q6, .ref q7, .int 1, .int 0, .int 2, .int 0, .int 0]))] t.heap ∧ va_K (dC, dI) classes [] t ∧ va_D (va_A [(q0, .inr (6, [.ref q1, .ref q2, .ref q3, .ref q4, .int 0, .int (-1)])), (q3, .inr (8, [.ref q1, .ref q5, .ref q6, .ref q7, .int 1, .int 0, .int 2, .int 0, .int 0]))] sz) [(q0, .inr (6, [.ref q1, .ref q2, .ref q3, .ref q4, .int 0, .int (-1)])), (q3, .inr (8, [.ref q1, .ref q5, .ref q6, .ref q7, .int 1, .int 0, .int 2, .int 0, .int 0]))]) (va_A [(q0, .inr (6, [.ref q1, .ref q2, .ref q3, .ref q4, .int 0, .int (-1)])), (q3, .inr (8, [.ref q1, .ref q5, .ref q6, .ref q7, .int 1, .int 0, .int 2, .int 0, .int 0]))] sz)) 0 0 (va_A [(q0, .inr (6, [.ref q1, .ref q2, .ref q3, .ref q4, .int 0, .int (-1)])), (q3, .inr (8, [.ref q1, .ref q5, .ref q6, .ref q7, .int 1, .int 0, .int 2, .int 0, .int 0]))] sz) := by
  refine Met.ofW (cc := cX6_accept) (maxL := 2) (ret := none) (by decide) rfl ?_
  intro p e s m args below meth c s₁ B hml hv
  obtain ⟨rfl, hsz, hP, hK, hD0, hE⟩ := hv
  have hx := B.exec
  have hb := B.bytes
  have hr := B.returns
  have hts := atoms_spec (ws := .code yX6_accept cX6_accept 2 none :: bigW) B.pre
  have hown : s.vm.findClass RX6 = some m.cls := findClass_of_methodNamed B.named
  have hlocks := B.notSynchronized
  subst hsz
  have hD := hD0.self (sz := s.heap.size)
  generalize hAe : va_A [(q0, .inr (6, [.ref q1, .ref q2, .ref q3, .ref q4, .int 0, .int (-1)])), (q3, .inr (8, [.ref q1, .ref q5, .ref q6, .ref q7, .int 1, .int 0, .int 2, .int 0, .int 0]))] s.heap.size = A at hD hE ⊢
  have hN : q_N s := hE.2.2.2.1
  have hA : ∀ q : Nat, s.heap.size ≤ q → A q := fun q h => by rw [← hAe]; exact Or.inr h
  have hS : va_S A s.heap s.heap [] := va_S.rf
  have hP : va_P (dC, dI) classes [(q0, .inr (6, [.ref q1, .ref q2, .ref q3, .ref q4, .int 0, .int (-1)])), (q3, .inr (8, [.ref q1, .ref q5, .ref q6, .ref q7, .int 1, .int 0, .int 2, .int 0, .int 0]))] s.heap := hP
  have hl := lv_entry ([.ref q0, .int 0]) (n := 2) (Nat.le_of_ble_eq_true rfl)
  rw [lg_entry_eq]
  generalize (lg_sl ([.ref q0, .int 0]) ++ List.replicate (2 - (lg_sl ([.ref q0, .int 0])).length) Slot.unset).toArray = ls at hl ⊢
  have hl : lv_has ls 2 [(0, .ref q0), (1, .int 0)] := hl
  refine lv_aload_n hx hb dX6_accept_0 rfl (lv_at hl 0 rfl) ?_
  refine va_get (D := (dC, dI)) (ci := 6) (v := .ref q3) (C := RX6) (T := TX6) (N := 6) hx hb hts (fun w h => mc (in_X6 w h)) hown hK hP 0 rfl rfl 2 (by decide) (hts _ (mc m_113)) (fun _ h9 => h9) rfl dX6_accept_1 ?_
  have hPc := hP.sub (ws' := [(q3, .inr (8, [.ref q1, .ref q5, .ref q6, .ref q7, .int 1, .int 0, .int 2, .int 0, .int 0]))]) [1] rfl
  have hDc := hD.sub (ws' := [(q3, .inr (8, [.ref q1, .ref q5, .ref q6, .ref q7, .int 1, .int 0, .int 2, .int 0, .int 0]))]) [1] (by decide) rfl
  have hKc := hK.sub (tys' := []) [] rfl
  have hFc := va_free (wc := [(q3, .inr (8, [.ref q1, .ref q5, .ref q6, .ref q7, .int 1, .int 0, .int 2, .int 0, .int 0]))]) hD hS hA [1] rfl
  refine va_calli (va_runV (As := []) (rest := []) ⟨hx, hb, hml, hown, hts⟩ (c_X8_kind_1 l dC dI q3 q1 q5 q6 q7 s.heap.size) (cwV 0 hts (gV m_318 m_319 m_320 m_99 m_317) rfl rfl rfl (by decide +kernel) ⟨Nat.le_of_ble_eq_true rfl, Nat.le_of_ble_eq_true rfl⟩) ⟨q_bl, va_recv hKc hPc (ci := 8) (q0 := 0) rfl rfl, q_pre hPc hKc hDc hE hS hFc⟩ rfl rfl hl.1 rfl (lv_room (Nat.le_of_ble_eq_true rfl)) dX6_accept_4 ⟨Nat.le_of_ble_eq_true rfl, Nat.le_of_ble_eq_true rfl⟩) hS (fun q _ h => hFc q h) hFc (fun r9 u t H1 locs ht hvm hw hB hz1 hk1 hS => ?_)
  obtain ⟨hP1, hK1, hD1⟩ := hB
  rw [ht] at hP1
  have hK1 := va_K.moved hvm.symm hK1
  obtain ⟨hP, hD⟩ := va_join (wr := [(q0, .inr (6, [.ref q1, .ref q2, .ref q3, .ref q4, .int 0, .int (-1)]))]) (w1 := [(q3, .inr (8, [.ref q1, .ref q5, .ref q6, .ref q7, .int 1, .int 0, .int 2, .int 0, .int 0]))]) hP hD [1] [0] rfl rfl (by decide) (by decide) hk1 hFc hP1 hD1
  have hK := (hK.sub (tys' := []) [] rfl).app hK1
  generalize H1 = H at hP hS ⊢
  have hP : va_P (dC, dI) classes [(q0, .inr (6, [.ref q1, .ref q2, .ref q3, .ref q4, .int 0, .int (-1)])), (q3, .inr (8, [.ref q1, .ref q5, .ref q6, .ref q7, .int 1, .int 0, .int 2, .int 0, .int 0]))] H := hP
  have hD : va_D A [(q0, .inr (6, [.ref q1, .ref q2, .ref q3, .ref q4, .int 0, .int (-1)])), (q3, .inr (8, [.ref q1, .ref q5, .ref q6, .ref q7, .int 1, .int 0, .int 2, .int 0, .int 0]))] := hD
  have hK : va_K (dC, dI) classes [] s := hK
  rw [hw]
  refine lv_iload_n hx hb dX6_accept_7 rfl (lv_at hl 1 rfl) ?_
  refine lv_icmp_ne (tgt := 21) hx hb dX6_accept_8 (by decide) (fun _ => ?_) (fun c9 => absurd c9 (by decide))
  refine lv_aload_n hx hb dX6_accept_21 rfl (lv_at hl 0 rfl) ?_
  refine lv_iconst (v := 1) hx hb dX6_accept_22 (by decide) ?_
  have hPc := hP.sub (ws' := [(q0, .inr (6, [.ref q1, .ref q2, .ref q3, .ref q4, .int 0, .int (-1)])), (q3, .inr (8, [.ref q1, .ref q5, .ref q6, .ref q7, .int 1, .int 0, .int 2, .int 0, .int 0]))]) [0, 1] rfl
  have hDc := hD.sub (ws' := [(q0, .inr (6, [.ref q1, .ref q2, .ref q3, .ref q4, .int 0, .int (-1)])), (q3, .inr (8, [.ref q1, .ref q5, .ref q6, .ref q7, .int 1, .int 0, .int 2, .int 0, .int 0]))]) [0, 1] (by decide) rfl
  have hKc := hK.sub (tys' := []) [] rfl
  have hFc := va_free (wc := [(q0, .inr (6, [.ref q1, .ref q2, .ref q3, .ref q4, .int 0, .int (-1)])), (q3, .inr (8, [.ref q1, .ref q5, .ref q6, .ref q7, .int 1, .int 0, .int 2, .int 0, .int 0]))]) hD hS hA [0, 1] rfl
  refine va_calli (va_runV (As := [.int 1]) (rest := []) ⟨hx, hb, hml, hown, hts⟩ (c_X6_refuse_1 l dC dI q0 q1 q2 q3 q4 q5 q6 q7 H.size) (cwV 1 hts (gV m_342 m_343 m_344 m_89 m_341) rfl rfl rfl (by decide +kernel) ⟨Nat.le_of_ble_eq_true rfl, Nat.le_of_ble_eq_true rfl⟩) ⟨q_bl, va_recv hKc hPc (ci := 6) (q0 := 0) rfl rfl, q_pre hPc hKc hDc hE hS hFc⟩ rfl rfl hl.1 rfl (lv_room (Nat.le_of_ble_eq_true rfl)) dX6_accept_23 ⟨Nat.le_of_ble_eq_true rfl, Nat.le_of_ble_eq_true rfl⟩) hS (fun q _ h => hFc q h) hFc (fun r9 u t H1 locs ht hvm hw hB hz1 hk1 hS => ?_)
  obtain ⟨hP1, hK1, hD1⟩ := hB
  rw [ht] at hP1
  have hK1 := va_K.moved hvm.symm hK1
  obtain ⟨hP, hD⟩ := va_join (wr := []) (w1 := [(q0, .inr (6, [.ref q1, .ref q2, .ref q3, .ref q4, .int 0, .int (-1)])), (q3, .inr (8, [.ref q1, .ref q5, .ref q6, .ref q7, .int 1, .int 0, .int 2, .int 0, .int 0]))]) hP hD [0, 1] [] rfl rfl (by decide) (by decide) hk1 hFc hP1 hD1
  have hK := (hK.sub (tys' := []) [] rfl).app hK1
  generalize H1 = H at hP hS ⊢
  have hP : va_P (dC, dI) classes [(q0, .inr (6, [.ref q1, .ref q2, .ref q3, .ref q4, .int 0, .int (-1)])), (q3, .inr (8, [.ref q1, .ref q5, .ref q6, .ref q7, .int 1, .int 0, .int 2, .int 0, .int 0]))] H := hP
  have hD : va_D A [(q0, .inr (6, [.ref q1, .ref q2, .ref q3, .ref q4, .int 0, .int (-1)])), (q3, .inr (8, [.ref q1, .ref q5, .ref q6, .ref q7, .int 1, .int 0, .int 2, .int 0, .int 0]))] := hD
  have hK : va_K (dC, dI) classes [] s := hK
  rw [hw]
  refine lv_pop hx hb dX6_accept_26 rfl ?_
  exact W.vret hx hb hr (fun t ht hW => ⟨⟨(), rfl, trivial, by rw [ht]; exact hP, va_K.moved hW.alike hK, hD⟩, hS.F ht⟩) hS.2.2 dX6_accept_27
