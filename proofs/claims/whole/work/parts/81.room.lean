/-! a contract holds with more room -/
theorem mw_room {l : Launch} {D : va_G} {y : MethodName} {ws : List Cond} {rm rm' : Room} {tys : List (ClassId × FieldType)} {av : List Value} {w w' : va_W} {r : Option Value} (h : MW l D y ws rm tys av w w' r) (h1 : rm.frames ≤ rm'.frames) (h2 : rm.cells ≤ rm'.cells) (h3 : rm.slots ≤ rm'.slots) (h4 : rm.locals ≤ rm'.locals) : MW l D y ws rm' tys av w w' r := by
  intro sz p e ha hc hk s m args below hf happ hP hK
  refine h sz p e ha hc hk s m args below hf ?_ hP hK
  rw [Spec.appliesLoose_iff hf] at happ ⊢
  obtain ⟨a1, a2, a3, a4, a5, a6, a7, a8⟩ := happ
  refine ⟨a1, a2, a3, a4, a5, a6, ?_, a8⟩
  have g1 : (headSpec ws rm).room = rm := rfl
  have g2 : (headSpec ws rm').room = rm' := rfl
  rw [g2] at a7
  rw [g1]
  unfold State.hasRoom at a7 ⊢
  simp only [Bool.and_eq_true, decide_eq_true_eq] at a7 ⊢
  refine ⟨?_, a7.2⟩
  have a7 := a7.1
  refine ⟨⟨⟨?_, ?_⟩, ?_⟩, ?_⟩
  · omega
  · omega
  · omega
  · omega
