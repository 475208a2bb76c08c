/-! Every start of this claim is, the state unchanged, also the start of a launch and a machine whose limit on frames is JUST the state's own frames and the room's 2048:
so the claim speaks of machines on which not one frame more than the room's can be made above the law's (REPORT.md, STATEMENT 4: the reference's run makes 2171). -/
section
def tt_low (l : Launch) (N : Nat) : Launch := { l with maxFrames := N }
def tt_env (e : Env) (N : Nat) : Env := { e with platform := { e.platform with maxFrames := N } }
theorem tt_file (l : Launch) (N : Nat) : (tt_low l N).file? = l.file? := rfl
theorem tt_classes (l : Launch) (N : Nat) : (tt_low l N).classes = l.classes := rfl
theorem tt_text (l : Launch) (N : Nat) : fileOfText (tt_low l N) = fileOfText l := rfl
theorem tt_arr (l : Launch) (N : Nat) : arrayNameStands (tt_low l N) = arrayNameStands l := rfl
theorem tt_reach (l : Launch) (N : Nat) (t : String) : ∀ (n : Nat) (c : String), reachesByFiles (tt_low l N) t n c = reachesByFiles l t n c
  | 0, _ => rfl
  | n + 1, c => by simp only [reachesByFiles, tt_arr, tt_file, tt_text, tt_reach l N t n]
theorem tt_first (l : Launch) (N : Nat) (a b : ClassFile.Facts.Text) : ∀ (n : Nat) (c : String), firstWithMethod (tt_low l N) a b n c = firstWithMethod l a b n c
  | 0, _ => rfl
  | n + 1, c => by simp only [firstWithMethod, tt_arr, tt_file, tt_text, tt_first l N a b n]
theorem tt_clear (l : Launch) (N : Nat) (a b : ClassFile.Facts.Text) : ∀ (n : Nat) (c : ClassFile.Facts.Text), clearOfField (tt_low l N) a b n c = clearOfField l a b n c
  | 0, _ => rfl
  | n + 1, c => by simp only [clearOfField, tt_text, tt_clear l N a b n]
theorem tt_field (l : Launch) (N : Nat) (a b : ClassFile.Facts.Text) : ∀ (n : Nat) (c : String), firstWithField (tt_low l N) a b n c = firstWithField l a b n c
  | 0, _ => rfl
  | n + 1, c => by simp only [firstWithField, tt_arr, tt_file, tt_text, tt_clear, tt_field l N a b n]
theorem tt_hides (l : Launch) (N : Nat) (a b : ClassFile.Facts.Text) : ∀ (n : Nat) (c : String), noneHides (tt_low l N) a b n c = noneHides l a b n c
  | 0, _ => rfl
  | n + 1, c => by simp only [noneHides, tt_file, tt_text, tt_hides l N a b n]
theorem tt_slots (l : Launch) (N : Nat) : ∀ (n : Nat) (c : String), slotsByFiles (tt_low l N) n c = slotsByFiles l n c
  | 0, _ => rfl
  | n + 1, c => by simp only [slotsByFiles, tt_file, tt_text, tt_slots l N n]
theorem tt_typeListed (l : Launch) (N : Nat) (t : ClassFile.FieldType) : typeListed (tt_low l N) t = typeListed l t := by
  induction t <;> simp_all only [typeListed, tt_file]
theorem tt_reachC (l : Launch) (N : Nat) (t : String) : ∀ (n : Nat) (c : String), reachesClassByFiles (tt_low l N) t n c = reachesClassByFiles l t n c
  | 0, _ => rfl
  | n + 1, c => by simp only [reachesClassByFiles, tt_file, tt_text, tt_reachC l N t n]
theorem tt_selects (l : Launch) (N : Nat) (C : String) (x y : MethodName) : selectsByFiles (tt_low l N) C x y = selectsByFiles l C x y := by
  simp only [selectsByFiles, tt_file, tt_first, tt_reach]
theorem tt_sameM (l : Launch) (N : Nat) (a b c d : String) : sameMethodByFiles (tt_low l N) a b c d = sameMethodByFiles l a b c d := by
  simp only [sameMethodByFiles, tt_file, tt_first]
theorem tt_sameF (l : Launch) (N : Nat) (a b c d : String) : sameFieldByFiles (tt_low l N) a b c d = sameFieldByFiles l a b c d := by
  simp only [sameFieldByFiles, tt_field]
theorem tt_unhidden (l : Launch) (N : Nat) (a b c : String) : unhiddenByFiles (tt_low l N) a b c = unhiddenByFiles l a b c := by
  simp only [unhiddenByFiles, tt_hides]
theorem tt_iface (l : Launch) (N : Nat) (a b c d : String) : interfaceMethodByFiles (tt_low l N) a b c d = interfaceMethodByFiles l a b c d := by
  simp only [interfaceMethodByFiles, tt_file]
theorem tt_static (l : Launch) (N : Nat) (a b c : String) : staticFieldByFiles (tt_low l N) a b c = staticFieldByFiles l a b c := by
  simp only [staticFieldByFiles, tt_field]
theorem tt_flags (l : Launch) (N : Nat) (a b c : String) (f : Nat) : plainByFlags (tt_low l N) a b c f = plainByFlags l a b c f := by
  simp only [plainByFlags, tt_file, tt_reachC]
theorem tt_plain (l : Launch) (N : Nat) (a b : String) : classPlainByFiles (tt_low l N) a b = classPlainByFiles l a b := by
  simp only [classPlainByFiles, tt_file]
theorem tt_fieldLink (l : Launch) (N : Nat) (a b c d : String) : fieldLinkByFiles (tt_low l N) a b c d = fieldLinkByFiles l a b c d := by
  simp only [fieldLinkByFiles, tt_plain, tt_field, tt_flags]
theorem tt_methodLink (l : Launch) (N : Nat) (a : String) (x : MethodName) : methodLinkByFiles (tt_low l N) a x = methodLinkByFiles l a x := by
  simp only [methodLinkByFiles, tt_plain, tt_first, tt_flags]
theorem tt_host (l : Launch) (N : Nat) (a b : String) : hostIsByFiles (tt_low l N) a b = hostIsByFiles l a b := by
  simp only [hostIsByFiles, tt_file]
theorem tt_fieldNest (l : Launch) (N : Nat) (a b c d e : String) : fieldLinkNestByFiles (tt_low l N) a b c d e = fieldLinkNestByFiles l a b c d e := by
  simp only [fieldLinkNestByFiles, tt_plain, tt_field, tt_host]
theorem tt_methodNest (l : Launch) (N : Nat) (a : String) (x : MethodName) (h : String) : methodLinkNestByFiles (tt_low l N) a x h = methodLinkNestByFiles l a x h := by
  simp only [methodLinkNestByFiles, tt_plain, tt_first, tt_host]
theorem tt_held (l : Launch) (N : Nat) (c : Cond) : heldByFiles (tt_low l N) c = heldByFiles l c := by
  induction c <;> simp only [heldByFiles, tt_file, tt_selects, tt_sameM, tt_sameF, tt_unhidden, tt_reach, tt_iface, tt_slots, tt_static, tt_typeListed, tt_fieldLink, tt_methodLink, tt_fieldNest, tt_methodNest, tt_plain, *]
theorem tt_chain (l : Launch) (N : Nat) : ∀ (n : Nat) (f : ClassFile.Facts.File), (tt_low l N).chainAbove? n f = l.chainAbove? n f
  | 0, _ => rfl
  | n + 1, f => by simp only [Launch.chainAbove?, tt_classes, tt_chain l N n]
theorem tt_shallow (l : Launch) (N : Nat) : (tt_low l N).shallow = l.shallow := by
  simp only [Launch.shallow, tt_classes, tt_chain]
theorem tt_trusts (l : Launch) (N : Nat) : (tt_low l N).trustsWell = l.trustsWell := rfl
theorem tt_sound {l : Launch} {N : Nat} (hN : N ≤ l.maxFrames) (h : l.sound = true) : (tt_low l N).sound = true := by
  have hs := tt_shallow l N
  have ht := tt_trusts l N
  unfold Launch.sound at h ⊢
  rw [hs, ht]
  simp only [Bool.and_eq_true, decide_eq_true_eq] at h ⊢
  have e1 : (tt_low l N).maxFrames = N := rfl
  rw [e1]
  obtain ⟨⟨⟨⟨⟨⟨⟨⟨⟨⟨⟨⟨⟨⟨⟨⟨⟨⟨h1, h2⟩, h3⟩, h4⟩, h5⟩, h6⟩, h7⟩, h8⟩, h9⟩, h10⟩, h11⟩, h12⟩, h13⟩, h14⟩, h15⟩, h16⟩, h17⟩, h18⟩, h19⟩ := h
  exact ⟨⟨⟨⟨⟨⟨⟨⟨⟨⟨⟨⟨⟨⟨⟨⟨⟨⟨h1, h2⟩, h3⟩, h4⟩, h5⟩, h6⟩, ⟨by omega, h7.2⟩⟩, h8⟩, h9⟩, h10⟩, h11⟩, h12⟩, h13⟩, h14⟩, h15⟩, h16⟩, h17⟩, h18⟩, h19⟩
theorem tt_says (l : Launch) (N : Nat) (y : Shape) : (tt_low l N).says y = l.says y := by
  cases y <;> rfl
theorem tt_from {l : Launch} {N : Nat} {S : Spec} (h : FromLaunch l S) : FromLaunch (tt_low l N) S := by
  refine ⟨h.1, h.2.1, h.2.2.1, fun y hy => ?_⟩
  rw [tt_says]
  exact h.2.2.2 y hy
theorem tt_lists {l : Launch} {N : Nat} (hN : N ≤ l.maxFrames) (h : Lists l classFile x code maxLocals ret tables_1 room_1) : Lists (tt_low l N) classFile x code maxLocals ret tables_1 room_1 := by
  refine ⟨tt_sound hN h.1, h.2.1, tt_from h.2.2.1, ?_⟩
  have e : (fun c => heldByFiles (tt_low l N) c) = fun c => heldByFiles l c := funext fun c => tt_held l N c
  rw [e]
  exact h.2.2.2
theorem tt_admits {l : Launch} {e : Env} {N : Nat} (h : l.admits e) : (tt_low l N).admits (tt_env e N) := by
  obtain ⟨h1, h2, h3, h4, h5, h6, h7, h8, h9, h10, h11, h12, h13, h14, h15, h16, h17⟩ := h
  refine ⟨h1, h2, h3, h4, ?_, Nat.le_refl _, h7, h8, h9, h10, h11, h12, h13, h14, h15, h16, h17⟩
  exact congrArg (fun P : Platform => { P with maxFrames := N }) h5
theorem tt_room {e : Env} {s : State} {r : Room} (h : s.hasRoom e.platform r = true) : s.hasRoom (tt_env e (s.frames.length + r.frames)).platform r = true := by
  simp only [State.hasRoom, Bool.and_eq_true, decide_eq_true_eq] at h ⊢
  obtain ⟨⟨⟨⟨h1, h2, h3, h4, h5, h6⟩, h7⟩, h8⟩, h9⟩ := h
  have k : ∀ P : Platform, P.stackLimits s.me = (P.maxFrames, P.maxStackSlots) := by
    intro P
    simp [Platform.stackLimits, Platform.limitsFor, h6]
  refine ⟨⟨⟨⟨h1, ?_, ?_, h4, ?_, h6⟩, h7⟩, h8⟩, h9⟩
  · exact Nat.le_refl _
  · rw [k]; exact Nat.le_refl _
  · rw [k]; exact h4
theorem tt_tight {l : Launch} {p : Program} {e : Env} {s : State} {m : MethodId} {args : Array Value} {below : List Frame}
    (h : AtStart classFile x code maxLocals ret World_1 tables_1 room_1 Calls_1 rest_1 Pre_1 l p e s m args below) :
    (tt_low l (s.frames.length + 2048)).flags = l.flags ∧ (tt_env e (s.frames.length + 2048)).platform.maxFrames = s.frames.length + 2048 ∧
      AtStart classFile x code maxLocals ret World_1 tables_1 room_1 Calls_1 rest_1 Pre_1 (tt_low l (s.frames.length + 2048)) p (tt_env e (s.frames.length + 2048)) s m args below := by
  obtain ⟨hL, hW, hA, hl, hc, hk, hf, ha, hh, hp, h1, h2, h3⟩ := h
  have q := (Spec.applies_iff hf).mp hp
  have hr := q.2.2.2.2.2.2.1
  have hN : s.frames.length + 2048 ≤ l.maxFrames := by
    have h0 := hr
    simp only [State.hasRoom, Bool.and_eq_true, decide_eq_true_eq] at h0
    have h00 := h0.1.1.1.2.1
    rw [hl.1] at h00
    exact h00
  refine ⟨rfl, rfl, tt_lists hN hL, trivial, tt_admits hA, ⟨rfl, hl.2.1, hl.2.2.1, hl.2.2.2⟩, hc, hk, hf, ha, hh, ?_, h1, h2, h3⟩
  exact (Spec.applies_iff hf).mpr ⟨q.1, q.2.1, q.2.2.1, q.2.2.2.1, q.2.2.2.2.1, q.2.2.2.2.2.1, tt_room (r := room_1) hr, q.2.2.2.2.2.2.2⟩
end
