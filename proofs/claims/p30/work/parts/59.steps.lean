/-! the target's words; each word's step; completion -/
theorem HT_keep {v u : gV} {W : Nat → Int32} {i m k k' : Nat} {y A : Int32} (h : HT v W i m k) (hW : eW W m) (h4 : u 4 = v 4) (h5 : u 5 = v 5) (h6 : ∀ j, 1 ≤ j → u 6 j = v 6 j) (h60 : u 6 0 = A) (hPt : ∀ ps A0, v 6 0 = A0 → Pt W ps m k A0 → Pt (upd W m y) ps (m + 1) k' A) : HT u (upd W m y) i (m + 1) k' := by
  obtain ⟨form, L, P, A0, a1, a2, a3, a4, a5, a6, a7, a8, a9, a10, a11, a12⟩ := h
  have hps : P 0 ≤ m := by rcases a8 with ⟨_, q, _⟩ | ⟨_, q, _⟩ | ⟨_, b, _, _, ⟨q, _⟩ | ⟨q, _⟩⟩ <;> omega
  refine ⟨form, L, P, A, a1, LI_next a2 hW (by rw [h4]) (by rw [h4]) (by rw [h4]) (fun j q _ => ⟨by rw [h5], h6 j q⟩), fun q => ?_, fun q => ?_, by rw [h4]; exact a5, by rw [h4]; exact a6, h60, hPt _ _ a7 a8, a9, W_up hW a10 (by decide), fun x hx => by rw [pk_un (by omega)]; exact a11 x hx, a12⟩
  · rw [(d_up _ (a2.2.2.2.2.2.2.2.2.2.2.1 L q (Nat.le_refl _)).2.1).1]
    exact W_up hW (a3 q) (by decide)
  · rcases a4 q with ⟨c1, c2⟩ | c
    · exact Or.inl ⟨c1, W_up hW c2 (by decide)⟩
    · exact Or.inr c
theorem HT_the {v u : gV} {W : Nat → Int32} {i m : Nat} (h : HT v W i m 0) (hW : eW W m) (hn : sX1_note v 4 (nI 21) = some u) : HT u (upd W m (nI 21)) i (m + 1) 1 := by
  rw [note_o (by decide), (no_o v).2.2.2.2.1] at hn
  have hu := (Option.some.inj hn).symm
  subst hu
  exact HT_keep h hW rfl rfl (fun _ _ => rfl) rfl (fun ps A0 q r => by rw [q]; exact Pt_the r)
theorem HT_adj {v u : gV} {W : Nat → Int32} {i m k b : Nat} (h : HT v W i m k) (hk : k ≤ 1) (hW : eW W m) (hb : b < 4) (hn : sX1_note v 4 (nI (b + 6)) = some u) : HT u (upd W m (nI (b + 6))) i (m + 1) 2 := by
  have h47 : v 4 7 = nI 0 := by
    obtain ⟨form, L, P, A0, a1, a2, a3, a4, a5, a6, _⟩ := h
    exact a6
  rw [note_a (show 6 ≤ b + 6 ∧ b + 6 < 10 by omega), no_a (s := 0) (by omega) h47, show b + 6 - 6 = b by omega] at hn
  have hu := (Option.some.inj hn).symm
  subst hu
  exact HT_keep h hW (up_r _ _ _ _ (by decide)) (up_r _ _ _ _ (by decide)) (fun j q => up_c _ _ _ _ (by omega)) (up_s _ _ _ _) (fun ps A0 _ r => Pt_adj r hk hb)
/-- the whole command with a target -/
theorem HT_fin {v u : gV} {W W' : Nat → Int32} {i m : Nat} {form L : Nat} {P : Nat → Nat} (hm : m ≤ 21) (h : LI u W' 2 form L m P) (h1 : 1 ≤ L → W' (dE W' (P L)) = 20) (h0 : L = 0 → (form = 1 ∧ W' 2 = 20) ∨ form = 2 ∨ form = 3) (h45 : u 4 5 = 0 ∨ u 4 5 = 1) (hP1 : 1 ≤ P 0) (hP0 : P 0 ≤ m) (hq : W' (P 0 - 1) = 20) (hq2 : ∀ x, x < P 0 - 1 → W' x ≠ 20) (hlt : ∀ j, 1 ≤ j → j ≤ L → P j < P 0) (ht : (u 4 5 = 1 ∧ W' (P 0) = 22) ∨ (u 4 5 = 0 ∧ Des W' (P 0) (u 5 0) (u 6 0))) : Fin u W' m := by
  left
  refine ⟨2, L, P, Cmd_of h hm h45 (fun q => ?_) (fun q => ?_) (by omega) (fun _ => ⟨hP1, hq, hq2, ht⟩) (fun _ => hlt)⟩
  · rw [h1 q]; decide
  · rcases h0 q with ⟨c1, c2⟩ | c | c
    · rw [c1, c2]; decide
    · exact ⟨by omega, fun q => by omega⟩
    · exact ⟨by omega, fun q => by omega⟩
theorem HT_noun {v u : gV} {W : Nat → Int32} {i m k x : Nat} (h : HT v W i m k) (hm : m ≤ 20) (hW : eW W m) (hx : x < 6) (hn : sX1_note v 4 (nI x) = some u) : Fin u (upd W m (nI x)) (m + 1) := by
  obtain ⟨form, L, P, A, a1, a2, a3, a4, a5, a6, a7, a8, a9, a10, a11, a12⟩ := h
  have hps : P 0 ≤ m := by rcases a8 with ⟨_, q, _⟩ | ⟨_, q, _⟩ | ⟨_, b, _, _, ⟨q, _⟩ | ⟨q, _⟩⟩ <;> omega
  have hL : ¬ v 4 6 < nI 0 := by rw [a2.2.2.2.2.1]; exact nI_nlt (by omega) (by have := a2.2.2.2.2.2.1; omega)
  rw [note_n hx, no_n (s := 0) (by omega) a6, if_neg hL] at hn
  have hu := (Option.some.inj hn).symm
  subst hu
  generalize hu : up (up v 5 0 (nI x)) 4 6 (v 4 6) = u
  have e6 : u 6 = v 6 := by rw [← hu, up_r _ _ _ _ (by decide), up_r _ _ _ _ (by decide)]
  have e5 : ∀ j, j ≠ 0 → u 5 j = v 5 j := fun j q => by rw [← hu, up_r _ _ _ _ (by decide), up_c _ _ _ _ q]
  have e50 : u 5 0 = nI x := by rw [← hu, up_r _ _ _ _ (by decide), up_s]
  have e4 : u 4 = v 4 := by
    funext j
    rw [← hu]
    by_cases q : j = 6
    · rw [q, up_s]
    · rw [up_c _ _ _ _ q, up_r _ _ _ _ (by decide)]
  refine HT_fin (v := v) (W := W) (i := i) (form := form) (L := L) (P := P) (by omega) (LI_next a2 hW (by rw [e4]) (by rw [e4]) (by rw [e4]) (fun j q _ => ⟨e5 j (by omega), by rw [e6]⟩)) (fun q => ?_) (fun q => ?_) (Or.inl (by rw [e4]; exact a5)) a9 (by omega) (W_up hW a10 (by decide)) (fun y hy => by rw [pk_un (by omega)]; exact a11 y hy) a12 (Or.inr ⟨by rw [e4]; exact a5, ?_⟩)
  · rw [(d_up _ (a2.2.2.2.2.2.2.2.2.2.2.1 L q (Nat.le_refl _)).2.1).1]
    exact W_up hW (a3 q) (by decide)
  · rcases a4 q with ⟨c1, c2⟩ | c
    · exact Or.inl ⟨c1, W_up hW c2 (by decide)⟩
    · exact Or.inr c
  · rw [e50, e6, a7]
    exact (Pt_noun a8 hx).1
theorem HT_it {v u : gV} {W : Nat → Int32} {i m : Nat} (h : HT v W i m 0) (hm : m ≤ 20) (hW : eW W m) (hn : sX1_note v 4 (nI 22) = some u) : Fin u (upd W m (nI 22)) (m + 1) := by
  obtain ⟨form, L, P, A, a1, a2, a3, a4, a5, a6, a7, a8, a9, a10, a11, a12⟩ := h
  have hps : m = P 0 := by rcases a8 with ⟨_, q, _⟩ | ⟨q, _⟩ | ⟨q, _⟩ <;> omega
  rw [note_o (by decide), (no_o v).2.2.2.2.2.1, if_pos a6] at hn
  have hu := (Option.some.inj hn).symm
  subst hu
  have e4 : ∀ j, j ≠ 5 → up v 4 5 1 4 j = v 4 j := fun j q => up_c _ _ _ _ q
  have e5 : up v 4 5 1 5 = v 5 := up_r _ _ _ _ (by decide)
  have e6 : up v 4 5 1 6 = v 6 := up_r _ _ _ _ (by decide)
  refine HT_fin (v := v) (W := W) (i := i) (form := form) (L := L) (P := P) (by omega) (LI_next a2 hW (e4 3 (by decide)) (e4 4 (by decide)) (e4 6 (by decide)) (fun j q _ => ⟨by rw [e5], by rw [e6]⟩)) (fun q => ?_) (fun q => ?_) (Or.inr (up_s _ _ _ _)) a9 (by omega) (W_up hW a10 (by decide)) (fun y hy => by rw [pk_un (by omega)]; exact a11 y hy) a12 (Or.inl ⟨up_s _ _ _ _, by rw [← hps, pk_us]; rfl⟩)
  · rw [(d_up _ (a2.2.2.2.2.2.2.2.2.2.2.1 L q (Nat.le_refl _)).2.1).1]
    exact W_up hW (a3 q) (by decide)
  · rcases a4 q with ⟨c1, c2⟩ | c
    · exact Or.inl ⟨c1, W_up hW c2 (by decide)⟩
    · exact Or.inr c
