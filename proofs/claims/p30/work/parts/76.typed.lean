/-! words typed into the buffer -/
def sumW : List Nat → Nat
  | [] => 0
  | w :: ws => lenW w + 1 + sumW ws
theorem sumW_app (a b : List Nat) : sumW (a ++ b) = sumW a + sumW b := by
  induction a with
  | nil => exact (Nat.zero_add _).symm
  | cons x a ih =>
    show lenW x + 1 + sumW (a ++ b) = lenW x + 1 + sumW a + sumW b
    omega
def TYW (w : gV) (ws : List Nat) : Prop := ∃ l, l ≤ 60 ∧ w 81 7 = nI l ∧ ((ws = [] ∧ l = 0) ∨ (ws ≠ [] ∧ TYP (w 87) ws 0 l ∧ l + 1 = sumW ws))
theorem spA_cong {B B' : Nat → Int32} {w f n l : Nat} (hl : f + n ≤ l) (e : ∀ j, j < l → B' j = B j) (h : spA B w f n = true) : spA B' w f n = true := spA_iff.mpr fun i hi => by rw [e _ (by omega)]; exact spA_iff.mp h i hi
theorem TYP_snoc {B B' : Nat → Int32} {w l : Nat} (hw : w < 25) (e : ∀ j, j < l → B' j = B j) (h32 : B' l = 32) (hs : spA B' w (l + 1) (lenW w) = true) : ∀ ws f, TYP B ws f l → TYP B' (ws ++ [w]) f (l + 1 + lenW w) := by
  intro ws
  induction ws with
  | nil =>
    intro f h
    have h : f = l + 1 := h
    subst h
    exact ⟨hw, hs, Nat.le_refl _, fun q => absurd q (Nat.lt_irrefl _), rfl⟩
  | cons w0 ws ih =>
    intro f h
    obtain ⟨h1, h2, h3, h4, h5⟩ := h
    refine ⟨h1, spA_cong h3 e h2, by omega, fun _ => ?_, ih _ h5⟩
    by_cases z : f + lenW w0 < l
    · rw [e _ z]; exact h4 z
    · rw [show f + lenW w0 = l by omega]; exact h32
theorem TYP_one {B : Nat → Int32} {w : Nat} (hw : w < 25) (hs : spA B w 0 (lenW w) = true) : TYP B [w] 0 (lenW w) := ⟨hw, hs, by omega, fun q => by omega, by show 0 + lenW w + 1 = lenW w + 1; omega⟩
/-- what typing leaves alone -/
def KP (v v' w w' : gV) : Prop := (∀ k, k ≠ 1 → k ≠ 2 → v' k = v k) ∧ (∀ k, k ≠ 81 → k ≠ 87 → w' k = w k) ∧ ∀ j, j ≠ 7 → w' 81 j = w 81 j
theorem KP_refl (v w : gV) : KP v v w w := ⟨fun _ _ _ => rfl, fun _ _ _ => rfl, fun _ _ => rfl⟩
theorem KP_trans {a b c x y z : gV} (h1 : KP a b x y) (h2 : KP b c y z) : KP a c x z := ⟨fun k q r => (h2.1 k q r).trans (h1.1 k q r), fun k q r => (h2.2.1 k q r).trans (h1.2.1 k q r), fun j q => (h2.2.2 j q).trans (h1.2.2 j q)⟩
theorem KP_ad (v w : gV) (l : Nat) (y : Int32) : KP v (adC v l y) w (adM w l y) := ⟨fun k q r => adC_k _ _ _ q r, fun k q r => adM_k _ _ _ q r, fun j q => adM_81 _ _ _ q⟩
theorem KP_IB {v v' w w' : gV} {c : Nat} (h : KP v v' w w') (hb : IB v w c) : IB v' w' c := by
  obtain ⟨y1, y2, y3, y4, y5, y6, y7, y8, y9⟩ := hb
  have e8 := h.1 8 (by decide) (by decide)
  have e84 := h.2.1 84 (by decide) (by decide)
  unfold IB
  rw [e84, e8, h.1 13 (by decide) (by decide)]
  exact ⟨y1, CW_congr y2 (fun k q1 q2 => h.1 k (by omega) (by omega)), y3, y4, y5, y6, y7, y8, y9⟩
theorem KP_INVr {v v' w w' : gV} (h : KP v v' w w') (hr : INVr v w) : INVr v' w' := INVr_congr hr (fun k q => h.1 k (by omega) (by omega)) (fun k q => h.2.1 k (by omega) (by omega)) (h.2.2 5 (by decide))
theorem adM_87 (w : gV) (l : Nat) (y : Int32) (j : Nat) : adM w l y 87 j = if j = l then y else w 87 j := by
  unfold adM
  rw [up_r _ _ _ _ (by decide)]
  by_cases e : j = l
  · rw [e, up_s, if_pos rfl]
  · rw [up_c _ _ _ _ e, if_neg e]
theorem p_letters {wd : Nat} (hw : wd < 25) : ∀ d i v w l kc, i + d = lenW wd → BR v w l → l + d ≤ 60 → d < kc → ∃ v' w', sX5_appendWord_103 1000 kc v (nI wd) (nI (lenW wd)) (nI i) = some (nI (l + d), v') ∧ KP v v' w w' ∧ BR v' w' (l + d) ∧ (∀ j, j < l → w' 87 j = w 87 j) ∧ ∀ j, j < d → w' 87 (l + j) = ltr wd (i + j) := by
  have hlt := len_tab wd hw
  intro d
  induction d with
  | zero =>
    intro i v w l kc hi hB hl hk1
    obtain ⟨kc, rfl⟩ : ∃ n, kc = n + 1 := ⟨kc - 1, by omega⟩
    unfold sX5_appendWord_103
    rw [if_pos (nI_le (by omega) (by omega)), hB.2.1]
    exact ⟨v, w, rfl, KP_refl _ _, hB, fun _ _ => rfl, fun j q => by omega⟩
  | succ d ih =>
    intro i v w l kc hi hB hl hk1
    obtain ⟨kc, rfl⟩ : ∃ n, kc = n + 1 := ⟨kc - 1, by omega⟩
    obtain ⟨x, hx, _, ex⟩ := ltr_tab wd hw i (by omega) (by omega)
    unfold sX5_appendWord_103
    rw [if_neg (nI_ge (by omega) (by omega)), k_let hw (by omega), ob, ex, k_add hB (by omega) hx, ob, nI_1]
    obtain ⟨v', w', g1, g2, g3, g4, g5⟩ := ih (i + 1) (adC v l (nI x)) (adM w l (nI x)) (l + 1) kc (by omega) (BR_ad hB (by omega) hx) (by omega) (by omega)
    rw [show l + 1 + d = l + (d + 1) by omega] at g1 g3
    refine ⟨v', w', g1, KP_trans (KP_ad _ _ _ _) g2, g3, fun j hj => ?_, fun j hj => ?_⟩
    · rw [g4 j (by omega), adM_87, if_neg (by omega)]
    · cases j with
      | zero => rw [g4 (l + 0) (by omega), adM_87, if_pos (by omega), ← ex]; rfl
      | succ j => rw [show l + (j + 1) = l + 1 + j by omega, g5 j (by omega)]; exact congrArg (ltr wd) (by omega)
theorem TYP_last {B : Nat → Int32} {l : Nat} : ∀ ws f, ws ≠ [] → TYP B ws f l → ∃ x, x < 128 ∧ 32 < x ∧ 0 < l ∧ B (l - 1) = nI x := by
  intro ws
  induction ws with
  | nil => intro f h; exact absurd rfl h
  | cons w ws ih =>
    intro f _ h
    obtain ⟨h1, h2, h3, h4, h5⟩ := h
    cases ws with
    | nil =>
      have h5 : f + lenW w + 1 = l + 1 := h5
      have hlt := len_tab w h1
      obtain ⟨x, hx, h32, ex⟩ := ltr_tab w h1 (lenW w - 1) (by omega) (by omega)
      refine ⟨x, hx, h32, by omega, ?_⟩
      rw [show l - 1 = f + (lenW w - 1) by omega, spA_iff.mp h2 _ (by omega), ex]
    | cons w' ws => exact ih _ (by simp) h5
theorem p_append {v w : gV} {ws : List Nat} {wd : Nat} (h : INV v w) (hT : TYW w ws) (hw : wd < 25) (hS : sumW ws + lenW wd ≤ 60) : ∃ r v' w', sX5_appendWord 1000 v (nI wd) = some (r, v') ∧ INV v' w' ∧ KP v v' w w' ∧ TYW w' (ws ++ [wd]) := by
  obtain ⟨⟨l0, hB⟩, hr⟩ := h
  obtain ⟨l, hl60, h7, hTy⟩ := hT
  have hl0 := hB.1
  have hlt := len_tab wd hw
  have el : l0 = l := (nI_eq (by omega) (by omega)).mp (hB.2.2.1.symm.trans h7)
  subst el
  unfold sX5_appendWord
  rw [if_neg (nI_pos (by omega)), if_pos (show nI wd < 25 from nI_lt (b := 25) hw (by decide)), hB.2.1]
  rcases hTy with ⟨e1, e2⟩ | ⟨hne, hTP, hsum⟩
  · subst e1
    subst e2
    rw [if_pos (show nI 0 ≤ 0 by decide)]
    unfold sX5_appendWord_52 sX5_appendWord_73 sX0_hasSpaceFor
    rw [k_len hw, ob, if_pos rfl, hB.2.1, nI_add, if_neg (show ¬ (60 : Int32) < nI (0 + lenW wd) from nI_nlt (a := 60) (by omega) (by decide)), ob, if_neg one_ne, if_pos rfl]
    obtain ⟨v', w', g1, g2, g3, g4, g5⟩ := p_letters hw (lenW wd) 0 v w 0 1000 (by omega) hB (by omega) (by omega)
    refine ⟨_, v', w', g1, ⟨⟨_, g3⟩, KP_INVr g2 hr⟩, g2, lenW wd, by omega, by rw [g3.2.2.1]; exact congrArg nI (by omega), Or.inr ⟨by simp, TYP_one hw (spA_iff.mpr fun i hi => (g5 i hi).trans (congrArg (ltr wd) (by omega))), rfl⟩⟩
  · obtain ⟨x, hx, h32, hl1, ex⟩ := TYP_last ws 0 hne hTP
    have n32 : ¬ w 87 (l0 - 1) = 32 := by
      rw [ex]
      intro q
      have := (nI_eq (b := 32) (by omega) (by decide)).mp q
      omega
    have hB2 := BR_ad (x := 32) hB (by omega) (by decide)
    rw [if_neg (nI_nle (by omega) (by omega)), show nI l0 - 1 = nI (l0 - 1) from pk_sub (b := 1) (by omega), k_space hB (by omega), ob, if_pos (show bI (decide (w 87 (l0 - 1) = 32)) = 0 by simp [n32, bI])]
    unfold sX5_appendWord_52 sX5_appendWord_73 sX0_hasSpaceFor
    rw [k_len hw, ob, if_neg one_ne, nI_1, hB.2.1, nI_add, if_neg (show ¬ (60 : Int32) < nI (l0 + (lenW wd + 1)) from nI_nlt (a := 60) (by omega) (by decide)), ob, if_neg one_ne, if_neg one_ne, show (32 : Int32) = nI 32 from rfl, k_add hB (by omega) (by decide), ob]
    obtain ⟨v', w', g1, g2, g3, g4, g5⟩ := p_letters hw (lenW wd) 0 (adC v l0 (nI 32)) (adM w l0 (nI 32)) (l0 + 1) 1000 (by omega) hB2 (by omega) (by omega)
    have hK := KP_trans (KP_ad v w l0 (nI 32)) g2
    refine ⟨_, v', w', g1, ⟨⟨_, g3⟩, KP_INVr hK hr⟩, hK, l0 + 1 + lenW wd, by omega, g3.2.2.1, Or.inr ⟨by simp, TYP_snoc (B := w 87) hw (fun j hj => ?_) ?_ (spA_iff.mpr fun i hi => (g5 i hi).trans (congrArg (ltr wd) (by omega))) ws 0 hTP, ?_⟩⟩
    · rw [g4 j (by omega), adM_87, if_neg (by omega)]
    · rw [g4 l0 (by omega), adM_87, if_pos rfl]; rfl
    · rw [sumW_app]
      show _ = sumW ws + (lenW wd + 1 + 0)
      omega
