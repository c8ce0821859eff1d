/-! the class's methods here, where a throw has no value, out of those that tell the throw -/
def gS1 : Nat ⊕ Int32 → Option Int32 := fun o => match o with
  | .inl _ => none
  | .inr r => some r
def gS2 : (Nat ⊕ Int32) × gV → Option (Int32 × gV) := fun q => match q.1 with
  | .inl _ => none
  | .inr r => some (r, q.2)
theorem gS1_l (i : Nat) : gS1 (.inl i) = none := rfl
theorem gS1_r (r : Int32) : gS1 (.inr r) = some r := rfl
theorem gS2_l (i : Nat) (v : gV) : gS2 (.inl i, v) = none := rfl
theorem gS2_r (r : Int32) (v : gV) : gS2 (.inr r, v) = some (r, v) := rfl
theorem ite_b {α β : Type} {c : Prop} [Decidable c] (A B : Option α) (f : α → Option β) : (if c then A else B).bind f = if c then A.bind f else B.bind f := by split <;> rfl
theorem bind_a {α β γ : Type} (x : Option α) (f : α → Option β) (g : β → Option γ) : (x.bind f).bind g = x.bind fun a => (f a).bind g := by cases x <;> rfl
theorem nb {α β : Type} (f : α → Option β) : (none : Option α).bind f = none := rfl
theorem ad_noun (v : gV) (x : Int32) : sX5_noun v x = (tX5_noun v x).bind gS1 := by
  unfold sX5_noun tX5_noun
  simp only [ite_b, bind_a, ob, nb, gS1_l, gS1_r]
theorem ad_adjective (v : gV) (x : Int32) : sX5_adjective v x = (tX5_adjective v x).bind gS1 := by
  unfold sX5_adjective tX5_adjective
  simp only [ite_b, bind_a, ob, nb, gS1_l, gS1_r]
theorem ad_place (v : gV) (x : Int32) : sX5_place v x = (tX5_place v x).bind gS1 := by
  unfold sX5_place tX5_place
  simp only [ite_b, bind_a, ob, nb, gS1_l, gS1_r]
theorem ad_isOpen (v : gV) (x : Int32) : sX5_isOpen v x = (tX5_isOpen v x).bind gS1 := by
  unfold sX5_isOpen tX5_isOpen
  simp only [ite_b, bind_a, ob, nb, gS1_l, gS1_r]
theorem ad_objectsAt (n : Nat) (v : gV) (x : Int32) : sX5_objectsAt n v x = (tX5_objectsAt n v x).bind gS1 := by
  unfold sX5_objectsAt tX5_objectsAt sX5_objectsAt_10 tX5_objectsAt_10
  simp only [ite_b, bind_a, ob, nb, gS1_l, gS1_r]
theorem ad_suitable (n : Nat) (v : gV) (x : Int32) : sX5_suitable n v x = (tX5_suitable n v x).bind gS1 := by
  unfold sX5_suitable tX5_suitable sX5_suitable_9 tX5_suitable_9
  simp only [ite_b, bind_a, ob, nb, gS1_l, gS1_r]
theorem ad_fitting (n : Nat) (v : gV) (x y : Int32) : sX5_fitting n v x y = (tX5_fitting n v x y).bind gS1 := by
  unfold sX5_fitting tX5_fitting sX5_fitting_19 tX5_fitting_19 sX5_fitting_27 tX5_fitting_27
  simp only [ite_b, bind_a, ob, nb, gS1_l, gS1_r]
theorem ad_addObject (n : Nat) (v : gV) (x y z : Int32) : sX5_addObject n v x y z = (tX5_addObject n v x y z).bind gS2 := by
  unfold sX5_addObject tX5_addObject sX5_addObject_32 tX5_addObject_32 sX5_addObject_60 tX5_addObject_60 sX5_addObject_89 tX5_addObject_89
  simp only [ite_b, bind_a, ob, nb, gS2_l, gS2_r]
theorem ad_moveTo (n : Nat) (v : gV) (x : Int32) : sX5_moveTo n v x = (tX5_moveTo n v x).bind gS2 := by
  unfold sX5_moveTo tX5_moveTo
  simp only [ite_b, bind_a, ob, nb, gS2_l, gS2_r]
theorem ad_enter (n : Nat) (v : gV) : sX5_enter n v = (tX5_enter n v).bind gS2 := by
  unfold sX5_enter tX5_enter
  simp only [ite_b, bind_a, ob, nb, gS2_l, gS2_r]
theorem ad_ifEntered (n : Nat) (v : gV) : sX5_ifEntered n v = (tX5_ifEntered n v).bind gS2 := by
  unfold sX5_ifEntered tX5_ifEntered
  simp only [ite_b, bind_a, ob, nb, gS2_l, gS2_r]
theorem ad_undo (n : Nat) (v : gV) : sX5_undo n v = (tX5_undo n v).bind gS2 := by
  unfold sX5_undo tX5_undo sX5_undo_33 tX5_undo_33
  simp only [ite_b, bind_a, ob, nb, gS2_l, gS2_r]
theorem ad_aw103 (n : Nat) : ∀ k v a b c, sX5_appendWord_103 n k v a b c = (tX5_appendWord_103 n k v a b c).bind gS2 := by
  intro k
  induction k with
  | zero => intro v a b c; rfl
  | succ k ih =>
    intro v a b c
    unfold sX5_appendWord_103 tX5_appendWord_103
    simp only [ite_b, bind_a, ob, nb, gS2_l, gS2_r, ih]
theorem ad_appendWord (n : Nat) (v : gV) (x : Int32) : sX5_appendWord n v x = (tX5_appendWord n v x).bind gS2 := by
  unfold sX5_appendWord tX5_appendWord sX5_appendWord_10 tX5_appendWord_10 sX5_appendWord_52 tX5_appendWord_52 sX5_appendWord_73 tX5_appendWord_73
  simp only [ite_b, bind_a, ob, nb, gS2_l, gS2_r, ad_aw103]
theorem MS_ok {v w : gV} {a b : Nat} {C : Option ((Nat ⊕ Int32) × gV)} {R : Option (Int32 × gV)} {r : Int32} {w' : gV} (h : MS v w a b C R) (hR : R = some (r, w')) (h8 : w' 81 8 = 0) : ∃ v', C.bind gS2 = some (r, v') ∧ INV v' w' := by
  obtain ⟨o, v', r', w2, e1, e2, _, _, h5, h6⟩ := h
  rw [hR] at e2
  have e := Option.some.inj e2
  have er : r = r' := congrArg Prod.fst e
  have ew : w' = w2 := congrArg Prod.snd e
  subst er
  subst ew
  rcases h6 with ⟨_, q⟩ | ⟨_, _, q⟩ | ⟨y, q1, q2, _⟩
  · rw [h8] at q; exact absurd q (by decide)
  · rw [h8] at q; exact absurd q (by decide)
  · refine ⟨v', ?_, h5⟩
    rw [e1, q1, ob, q2]
    rfl
