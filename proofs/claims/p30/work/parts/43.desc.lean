/-! descriptions: what the reference reads out of its words, what the class kept; one description's outcome on both sides -/
def Wv (s : Nat → Int32) (p : Nat) : Int32 := if 60 ≤ p then -1 else if s 58 ≤ nI p then -1 else s (59 + p)
def adjW (x : Int32) : Bool := !decide (x < 6) && !decide (9 < x)
def dA (W : Nat → Int32) (p : Nat) : Nat := if W p = 21 then p + 1 else p
def dN (W : Nat → Int32) (p : Nat) : Nat := if adjW (W (dA W p)) = true then dA W p + 1 else dA W p
def dE (W : Nat → Int32) (p : Nat) : Nat := dN W p + 1
def dX (W : Nat → Int32) (p : Nat) : Int32 := if adjW (W (dA W p)) = true then W (dA W p) - 6 else -1
def Des (W : Nat → Int32) (p : Nat) (a b : Int32) : Prop := a = W (dN W p) ∧ b = dX W p ∧ ∃ x, x < 6 ∧ W (dN W p) = nI x
theorem dA_le (W : Nat → Int32) (p : Nat) : p ≤ dA W p ∧ dA W p ≤ p + 1 := by unfold dA; split <;> omega
theorem dN_le (W : Nat → Int32) (p : Nat) : p ≤ dN W p ∧ dN W p ≤ p + 2 := by
  have := dA_le W p
  unfold dN
  split <;> omega
theorem dE_le (W : Nat → Int32) (p : Nat) : p < dE W p ∧ dE W p ≤ p + 3 := by
  have := dN_le W p
  unfold dE
  omega
theorem u84 (v : gV) (j : Nat) (x : Int32) : up v 81 j x 84 = v 84 := up_r _ _ _ _ (by decide)
theorem u81 (v : gV) (j i : Nat) (x : Int32) : up v 81 j x 81 i = if i = j then x else v 81 i := by simp [up]
theorem m_isAdj (x : Int32) : sX6_isAdjective x = some (bI (adjW x)) := by
  unfold sX6_isAdjective sX6_in adjW
  by_cases h1 : x < 6
  · rw [if_pos h1, ob]; simp [h1, bI]
  · rw [if_neg h1]
    by_cases h2 : 9 < x
    · rw [if_pos h2, ob]; simp [h2, bI]
    · rw [if_neg h2, ob]; simp [h1, h2, bI]
theorem add_59 (p : Nat) : 59 + nI p = nI (59 + p) := nI_add 59 p
theorem add_90 (p : Nat) : 90 + nI p = nI (90 + p) := nI_add 90 p
theorem m_word {v : gV} {p : Nat} (hp : p < 60) : sX6_word v (nI p) = some (Wv (v 84) p) := by
  unfold sX6_word Wv
  rw [if_neg (show ¬ 60 ≤ p by omega)]
  by_cases h : v 84 58 ≤ nI p
  · rw [if_pos h, if_pos h]
  · rw [if_neg h, if_neg h, add_59, if_pos (nI_in (by omega) (by decide)), nI_clamp (by omega)]
theorem adjW_x {x : Int32} (h : adjW x = true) : ∃ b, b < 4 ∧ x = nI (b + 6) := by
  unfold adjW at h
  have h1 : ¬ x < 6 := by
    intro q
    simp [q] at h
  have h2 : x ≤ 9 := by
    have : ¬ 9 < x := by
      intro q
      simp [q] at h
    exact Int32.not_lt.mp this
  have h0 : ¬ x < 0 := fun q => h1 (Int32.lt_of_lt_of_le q (by decide))
  obtain ⟨j, hj, e⟩ := nI_of2 (n := 9) (by decide) h0 h2
  have h6 : 6 ≤ j := by
    refine Classical.byContradiction fun q => h1 ?_
    rw [e]
    exact nI_lt (b := 6) (by omega) (by decide)
  exact ⟨j - 6, by omega, by rw [e]; congr 1; omega⟩
theorem dX_neg (W : Nat → Int32) (p : Nat) : dX W p = -1 ∧ adjW (W (dA W p)) = false ∨ (∃ b, b < 4 ∧ dX W p = nI b) ∧ adjW (W (dA W p)) = true := by
  unfold dX
  cases h : adjW (W (dA W p)) with
  | false => left; exact ⟨by rw [if_neg (by decide)], rfl⟩
  | true =>
    right
    rw [if_pos rfl]
    obtain ⟨b, hb, e⟩ := adjW_x h
    refine ⟨⟨b, hb, ?_⟩, rfl⟩
    rw [e]
    exact pk_sub (a := b + 6) (b := 6) (by omega)
theorem dX_ok (W : Nat → Int32) (p : Nat) : dX W p = -1 ∨ ¬ dX W p < 0 := by
  rcases dX_neg W p with h | h
  · exact Or.inl h.1
  · obtain ⟨⟨b, hb, e⟩, _⟩ := h
    right
    rw [e]
    exact nI_pos (by omega)
theorem m_rd {v : gV} {p : Nat} (hp : v 81 12 = nI p) (hl : p < 50) : sX6_readDescription v = some (up (up (up (up (up v 81 12 (nI (dA (Wv (v 84)) p))) 81 16 (dX (Wv (v 84)) p)) 81 12 (nI (dN (Wv (v 84)) p))) 81 15 (Wv (v 84) (dN (Wv (v 84)) p))) 81 12 (nI (dE (Wv (v 84)) p))) := by
  have hA := dA_le (Wv (v 84)) p
  have hN := dN_le (Wv (v 84)) p
  have e1 : sX6_readDescription v = sX6_readDescription_23 v (nI (dA (Wv (v 84)) p)) 0 := by
    unfold sX6_readDescription
    rw [hp, m_word (by omega), ob]
    unfold dA
    by_cases h : Wv (v 84) p = 21
    · rw [if_pos h, if_pos h]
      unfold sX6_readDescription_23
      rw [nI_1, show nI (p + 1) + 0 = nI (p + 1) from nI_add _ 0]
    · rw [if_neg h, if_neg h]
  rw [e1]
  unfold sX6_readDescription_23
  rw [show nI (dA (Wv (v 84)) p) + 0 = nI (dA (Wv (v 84)) p) from nI_add _ 0, ob]
  simp only [u81, if_true]
  rw [m_word (by omega), ob, u84, m_isAdj, ob]
  have e2 : ∀ V : gV, V 84 = v 84 → V 81 12 = nI (dA (Wv (v 84)) p) → sX6_readDescription_57 V (dX (Wv (v 84)) p) = some (up (up (up (up V 81 16 (dX (Wv (v 84)) p)) 81 12 (nI (dN (Wv (v 84)) p))) 81 15 (Wv (v 84) (dN (Wv (v 84)) p))) 81 12 (nI (dE (Wv (v 84)) p))) := by
    intro V hV hV2
    unfold sX6_readDescription_57 sX6_readDescription_77
    simp only [ob]
    have hz : ∀ t : Int32, nI (dA (Wv (v 84)) p) + t = nI (dN (Wv (v 84)) p) → (sX6_word (up (up V 81 16 (dX (Wv (v 84)) p)) 81 12 ((up V 81 16 (dX (Wv (v 84)) p)) 81 12 + t)) ((up (up V 81 16 (dX (Wv (v 84)) p)) 81 12 ((up V 81 16 (dX (Wv (v 84)) p)) 81 12 + t)) 81 12)).bind (fun q_7 => some (up (up (up (up V 81 16 (dX (Wv (v 84)) p)) 81 12 ((up V 81 16 (dX (Wv (v 84)) p)) 81 12 + t)) 81 15 q_7) 81 12 ((up (up (up V 81 16 (dX (Wv (v 84)) p)) 81 12 ((up V 81 16 (dX (Wv (v 84)) p)) 81 12 + t)) 81 15 q_7) 81 12 + 1))) = some (up (up (up (up V 81 16 (dX (Wv (v 84)) p)) 81 12 (nI (dN (Wv (v 84)) p))) 81 15 (Wv (v 84) (dN (Wv (v 84)) p))) 81 12 (nI (dE (Wv (v 84)) p))) := by
      intro t ht
      simp only [u81]
      rw [if_neg (by decide), hV2, ht, if_pos True.intro, m_word (by omega), ob, u84, u84, hV]
      simp only [if_neg (show ¬ (12 : Nat) = 15 by decide), if_true, nI_1]
      rfl
    rcases dX_neg (Wv (v 84)) p with h | h
    · have hlt : (up V 81 16 (dX (Wv (v 84)) p)) 81 16 < 0 := by rw [u81, if_pos rfl, h.1]; decide
      rw [if_pos hlt]
      refine hz 0 ?_
      unfold dN
      rw [h.2, if_neg (by decide)]
      exact nI_add _ 0
    · obtain ⟨⟨b, hb, e⟩, h2⟩ := h
      have hlt : ¬ (up V 81 16 (dX (Wv (v 84)) p)) 81 16 < 0 := by rw [u81, if_pos rfl, e]; exact nI_pos (by omega)
      rw [if_neg hlt]
      refine hz 1 ?_
      unfold dN
      rw [h2, if_pos rfl]
      exact nI_1 _
  have e3 := e2 (up v 81 12 (nI (dA (Wv (v 84)) p))) (u84 _ _ _) (by rw [u81, if_pos rfl])
  cases h : adjW (Wv (v 84) (dA (Wv (v 84)) p)) with
  | false =>
    rw [if_pos (by decide)]
    have : dX (Wv (v 84)) p = -1 := by unfold dX; rw [h, if_neg (by decide)]
    rw [this] at e3 ⊢
    exact e3
  | true =>
    rw [if_neg (by decide), ob]
    have : dX (Wv (v 84)) p = Wv (v 84) (dA (Wv (v 84)) p) - 6 := by unfold dX; rw [h, if_pos rfl]
    rw [← this]
    exact e3
/-- what of a heap the resolving leaves: the reference's scratch places 12..16 aside -/
def fr (v v' : gV) : Prop := (∀ k, k ≠ 81 → k ≠ 84 → v' k = v k) ∧ ∀ j, j < 12 → v' 81 j = v 81 j
theorem fr_refl (v : gV) : fr v v := ⟨fun _ _ _ => rfl, fun _ _ => rfl⟩
theorem fr_trans {a b c : gV} (h1 : fr a b) (h2 : fr b c) : fr a c := ⟨fun k q r => (h2.1 k q r).trans (h1.1 k q r), fun j q => (h2.2 j q).trans (h1.2 j q)⟩
theorem fr_81 {a b : gV} (h : fr a b) {j : Nat} (hj : 12 ≤ j) (x : Int32) : fr a (up b 81 j x) := ⟨fun k q r => (up_r _ _ _ _ q).trans (h.1 k q r), fun i q => (up_c _ _ _ _ (by omega)).trans (h.2 i q)⟩
theorem fr_84 {a b : gV} (h : fr a b) (j : Nat) (x : Int32) : fr a (up b 84 j x) := ⟨fun k q r => (up_r _ _ _ _ r).trans (h.1 k q r), fun i q => by rw [up_r _ _ _ _ (by decide)]; exact h.2 i q⟩
theorem s84 (v : gV) (j : Nat) (x : Int32) : up v 84 j x 84 = upd (v 84) j x := up_u _ _ _ _
theorem s84_81 (v : gV) (j : Nat) (x : Int32) : up v 84 j x 81 = v 81 := up_r _ _ _ _ (by decide)
/-- what a description may stand for -/
def psB (s : Nat → Int32) (a b : Int32) (S : Nat → Bool) (k : Nat) : Bool := fitB s a b k && visB s k && S k
def fvB (s : Nat → Int32) (a b : Int32) (k : Nat) : Bool := fitB s a b k && visB s k
theorem cn_mono {n : Nat} {P Q : Nat → Bool} (h : ∀ k, k < n → P k = true → Q k = true) : cn n P ≤ cn n Q := by
  induction n with
  | zero => exact Nat.le_refl _
  | succ n ih =>
    have ih := ih (fun k hk => h k (by omega))
    unfold cn
    have := h n (by omega)
    by_cases e : P n = true
    · rw [if_pos e, if_pos (this e)]; omega
    · rw [if_neg e]; omega
theorem mk_ne {n : Nat} (hn : n ≤ 12) {P : Nat → Bool} : mk n P = 0 ↔ cn n P = 0 := by
  rw [mk_0 (by omega), cn_0]
theorem m_desc {v : gV} {c p : Nat} {S : Nat → Bool} {x : Int32} (h : OKs (v 84) c) (hp : v 81 12 = nI p) (hl : p < 30) (hS : ∀ V : gV, V 84 = v 84 → sX6_suitableOnes 1000 V x = some (mk c S)) (hx : ∃ a, a < 6 ∧ Wv (v 84) (dN (Wv (v 84)) p) = nI a) :
    ∃ v', sX6_describe 1000 v x = some v' ∧ fr v v' ∧ v' 81 12 = nI (dE (Wv (v 84)) p) ∧
     ((cn c (fvB (v 84) (Wv (v 84) (dN (Wv (v 84)) p)) (dX (Wv (v 84)) p)) = 0 ∧ v' 81 13 = -2 ∧ v' 84 = v 84) ∨
      (cn c (fvB (v 84) (Wv (v 84) (dN (Wv (v 84)) p)) (dX (Wv (v 84)) p)) ≠ 0 ∧ cn c (psB (v 84) (Wv (v 84) (dN (Wv (v 84)) p)) (dX (Wv (v 84)) p) S) = 0 ∧ v' 81 13 = -3 ∧ v' 84 = v 84) ∨
      (cn c (psB (v 84) (Wv (v 84) (dN (Wv (v 84)) p)) (dX (Wv (v 84)) p) S) = 1 ∧ v' 81 13 = v 81 13 ∧ v' 84 = v 84 ∧ ∃ k, isLow c (psB (v 84) (Wv (v 84) (dN (Wv (v 84)) p)) (dX (Wv (v 84)) p) S) k ∧ v' 81 14 = nI k) ∨
      (1 < cn c (psB (v 84) (Wv (v 84) (dN (Wv (v 84)) p)) (dX (Wv (v 84)) p) S) ∧ v 84 (90 + p) ≤ 0 ∧ v' 81 13 = -1 ∧ v' 84 = upd (upd (v 84) 56 (nI p)) 57 (mk c (psB (v 84) (Wv (v 84) (dN (Wv (v 84)) p)) (dX (Wv (v 84)) p) S))) ∨
      (1 < cn c (psB (v 84) (Wv (v 84) (dN (Wv (v 84)) p)) (dX (Wv (v 84)) p) S) ∧ ¬ v 84 (90 + p) ≤ 0 ∧ v' 81 13 = v 81 13 ∧ v' 84 = v 84 ∧ v' 81 14 = v 84 (90 + p) - 1)) := by
  have hc := h.1
  unfold sX6_describe
  rw [m_rd hp (by omega), ob]
  obtain ⟨V, hV⟩ : ∃ V, V = up (up (up (up (up v 81 12 (nI (dA (Wv (v 84)) p))) 81 16 (dX (Wv (v 84)) p)) 81 12 (nI (dN (Wv (v 84)) p))) 81 15 (Wv (v 84) (dN (Wv (v 84)) p))) 81 12 (nI (dE (Wv (v 84)) p)) := ⟨_, rfl⟩
  rw [← hV]
  have f0 : fr v V := by
    rw [hV]
    exact fr_81 (fr_81 (fr_81 (fr_81 (fr_81 (fr_refl v) (by decide) _) (by decide) _) (by decide) _) (by decide) _) (by decide) _
  have e84 : V 84 = v 84 := by rw [hV]; simp only [u84]
  have e12 : V 81 12 = nI (dE (Wv (v 84)) p) := by rw [hV, u81, if_pos rfl]
  have e13 : V 81 13 = v 81 13 := by rw [hV]; simp [u81]
  have e15 : V 81 15 = Wv (v 84) (dN (Wv (v 84)) p) := by rw [hV]; simp [u81]
  have e16 : V 81 16 = dX (Wv (v 84)) p := by rw [hV]; simp [u81]
  clear hV
  obtain ⟨a, ha, ea⟩ := hx
  have ha1 : Wv (v 84) (dN (Wv (v 84)) p) ≠ -1 := by
    rw [ea]
    intro q
    exact nI_pos (n := a) (by omega) (by rw [q]; decide)
  have h' : OKs (V 84) c := by rw [e84]; exact h
  rw [e15, e16, m_fit h' ha1 (dX_ok _ _), ob, m_visOnes h', ob, hS V e84, ob, e84, mk_and (by omega), mk_and (by omega)]
  rw [show (fun k => fitB (v 84) (Wv (v 84) (dN (Wv (v 84)) p)) (dX (Wv (v 84)) p) k && visB (v 84) k) = fvB (v 84) (Wv (v 84) (dN (Wv (v 84)) p)) (dX (Wv (v 84)) p) from rfl]
  rw [show (fun k => fitB (v 84) (Wv (v 84) (dN (Wv (v 84)) p)) (dX (Wv (v 84)) p) k && visB (v 84) k && S k) = psB (v 84) (Wv (v 84) (dN (Wv (v 84)) p)) (dX (Wv (v 84)) p) S from rfl]
  generalize hF : fvB (v 84) (Wv (v 84) (dN (Wv (v 84)) p)) (dX (Wv (v 84)) p) = F
  generalize hG : psB (v 84) (Wv (v 84) (dN (Wv (v 84)) p)) (dX (Wv (v 84)) p) S = G
  by_cases z1 : cn c F = 0
  · rw [if_pos ((mk_ne hc).mpr z1), ob]
    refine ⟨_, rfl, fr_81 f0 (by decide) _, ?_, Or.inl ⟨z1, ?_, ?_⟩⟩
    · simp only [u81]; exact e12
    · simp only [u81]; rfl
    · rw [u84, e84]
  · rw [if_neg (fun q => z1 ((mk_ne hc).mp q))]
    by_cases z2 : cn c G = 0
    · rw [if_pos ((mk_ne hc).mpr z2), ob]
      refine ⟨_, rfl, fr_81 f0 (by decide) _, ?_, Or.inr (Or.inl ⟨z1, z2, ?_, ?_⟩)⟩
      · simp only [u81]; exact e12
      · simp only [u81]; rfl
      · rw [u84, e84]
    · have hcl := cn_le c G
      rw [if_neg (fun q => z2 ((mk_ne hc).mp q)), m_size hc, ob]
      by_cases z3 : cn c G = 1
      · obtain ⟨j, hj, _⟩ := cn_one hc z3
        rw [if_pos (by rw [z3]; rfl), m_low hc hj, ob, ob]
        refine ⟨_, rfl, fr_81 f0 (by decide) _, ?_, Or.inr (Or.inr (Or.inl ⟨z3, ?_, ?_, j, hj, ?_⟩))⟩
        · simp only [u81]; exact e12
        · simp only [u81]; exact e13
        · rw [u84, e84]
        · simp only [u81]; rfl
      · have hne : ¬ nI (cn c G) = 1 := by
          intro q
          exact z3 ((nI_eq (b := 1) (by omega) (by decide)).mp q)
        rw [if_neg hne, hp, add_90, if_pos (nI_in (by omega) (by decide)), nI_clamp (by omega)]
        by_cases z4 : v 84 (90 + p) ≤ 0
        · rw [if_pos z4]
          simp only [ob]
          refine ⟨_, rfl, fr_84 (fr_84 (fr_81 f0 (by decide) _) _ _) _ _, ?_, Or.inr (Or.inr (Or.inr (Or.inl ⟨by omega, z4, ?_, ?_⟩)))⟩
          · simp only [s84_81, u81]; exact e12
          · simp only [s84_81, u81]; rfl
          · rw [s84, s84, u84, e84]
        · rw [if_neg z4, if_pos (show ¬ (nI (90 + p) < 0 ∨ 122 ≤ 90 + p) from fun q => q.elim (nI_pos (by omega)) (by omega)), ob]
          refine ⟨_, rfl, fr_81 f0 (by decide) _, ?_, Or.inr (Or.inr (Or.inr (Or.inr ⟨by omega, z4, ?_, ?_, ?_⟩)))⟩
          · simp only [u81]; exact e12
          · simp only [u81]; exact e13
          · rw [u84, e84]
          · simp only [u81]; rfl
theorem ge_8 {i : Nat} (h : i < 8) : ¬ (8 : Int32) ≤ nI i := nI_ge (b := 8) h (by decide)
/-- what the class's resolved description is, or how it fails; F: fits and visible, G: fits, visible and suitable -/
theorem k_desc {v : gV} {a c j : Nat} {s : Nat → Int32} {S : Nat → Bool} (h : CW v (a + 1) s c) (ho : OKs s c) (hj : j < 8) (hS : ∀ k, k < c → S k = true → visB s k = true) :
    sX3_resolveDescription 1000 v a (nI j) (mk c (visB s)) (mk c S) = if v ((a + 5) + 3) j = 0 then (if cn c (fvB s (v ((a + 5) + 1) j) (v ((a + 5) + 2) j)) = 0 then some (-2, v) else if cn c (psB s (v ((a + 5) + 1) j) (v ((a + 5) + 2) j) S) = 0 then some (-3, v) else if cn c (psB s (v ((a + 5) + 1) j) (v ((a + 5) + 2) j) S) = 1 then some (mk c (psB s (v ((a + 5) + 1) j) (v ((a + 5) + 2) j) S), v) else some (-1, up (up v a 8 (nI j)) a 7 (mk c (psB s (v ((a + 5) + 1) j) (v ((a + 5) + 2) j) S)))) else some (v ((a + 5) + 3) j, v) := by
  have hc := ho.1
  unfold sX3_resolveDescription sX1_hasSlot sX3_orNothingSuitable
  rw [if_neg (nI_pos (by omega)), if_neg (ge_8 hj), ob, if_neg (by decide)]
  have hin : ¬ (nI j < 0 ∨ 8 ≤ (nI j).toNatClampNeg) := nI_in hj (by decide)
  rw [if_pos hin, if_pos hin, if_pos hin, if_pos hin, nI_clamp (by omega)]
  by_cases z0 : v ((a + 5) + 3) j = 0
  · rw [if_pos z0, if_pos z0, k_fit h hc, ob, mk_and (by omega), mk_and (by omega)]
    have eG : mk c (fun k => fitB s (v ((a + 5) + 1) j) (v ((a + 5) + 2) j) k && S k) = mk c (psB s (v ((a + 5) + 1) j) (v ((a + 5) + 2) j) S) := by
      refine mk_congr fun k hk => ?_
      unfold psB
      cases hz : S k with
      | false => simp
      | true => simp [hS k hk hz]
    rw [eG, show (fun k => fitB s (v ((a + 5) + 1) j) (v ((a + 5) + 2) j) k && visB s k) = fvB s (v ((a + 5) + 1) j) (v ((a + 5) + 2) j) from rfl]
    generalize fvB s (v ((a + 5) + 1) j) (v ((a + 5) + 2) j) = F
    generalize psB s (v ((a + 5) + 1) j) (v ((a + 5) + 2) j) S = G
    have hcl := cn_le c G
    by_cases z1 : cn c F = 0
    · rw [if_pos ((mk_ne hc).mpr z1), if_pos z1]
    · rw [if_neg (fun q => z1 ((mk_ne hc).mp q)), if_neg z1, bitC hc, ob]
      by_cases z2 : cn c G = 0
      · rw [if_pos (show nI (cn c G) ≤ 1 by rw [z2]; decide), if_pos ((mk_ne hc).mpr z2), ob, if_pos z2]
      · rw [if_neg z2]
        by_cases z3 : cn c G = 1
        · rw [if_pos (show nI (cn c G) ≤ 1 by rw [z3]; decide), if_neg (fun q => z2 ((mk_ne hc).mp q)), ob, if_pos z3]
        · rw [if_neg (show ¬ nI (cn c G) ≤ 1 from nI_ge (a := 1) (by omega) (by omega)), if_neg z3]
          simp only [ob]
  · rw [if_neg z0, if_neg z0]
/-- a slot of the class's and its place among the reference's words: not answered on either side, or answered with the same object -/
def AnsR (v : gV) (e : Nat) (s : Nat → Int32) (c j p : Nat) (G : Nat → Bool) : Prop := (v (e + 3) j = 0 ∧ s (90 + p) = 0) ∨ ∃ k, k < c ∧ v (e + 3) j = pw k ∧ s (90 + p) = nI (k + 1) ∧ 1 < cn c G ∧ G k = true
theorem pw_ne {k : Nat} (hk : k < 32) : pw k ≠ 0 := by
  intro q
  have := bt_pw hk k
  rw [q, bt_0] at this
  simp at this
theorem b_desc {v v2 : gV} {a c j p : Nat} {S : Nat → Bool} {x : Int32} (h : CW v (a + 1) (v2 84) c) (ho : OKs (v2 84) c) (hj : j < 8) (hS : ∀ k, k < c → S k = true → visB (v2 84) k = true) (hSx : ∀ V : gV, V 84 = v2 84 → sX6_suitableOnes 1000 V x = some (mk c S)) (hp : v2 81 12 = nI p) (hl : p < 30)
    (hD : Des (Wv (v2 84)) p (v ((a + 5) + 1) j) (v ((a + 5) + 2) j)) (hA : AnsR v (a + 5) (v2 84) c j p (psB (v2 84) (v ((a + 5) + 1) j) (v ((a + 5) + 2) j) S)) :
    ∃ R v' v2', sX3_resolveDescription 1000 v a (nI j) (mk c (visB (v2 84))) (mk c S) = some (R, v') ∧ sX6_describe 1000 v2 x = some v2' ∧ fr v2 v2' ∧ v2' 81 12 = nI (dE (Wv (v2 84)) p) ∧
      ((∃ k, k < c ∧ R = pw k ∧ v' = v ∧ v2' 81 13 = v2 81 13 ∧ v2' 81 14 = nI k ∧ v2' 84 = v2 84 ∧ S k = true) ∨
       ((R = -2 ∨ R = -3) ∧ v' = v ∧ v2' 81 13 = R ∧ v2' 84 = v2 84) ∨
       (R = -1 ∧ 1 < cn c (psB (v2 84) (v ((a + 5) + 1) j) (v ((a + 5) + 2) j) S) ∧ v' = up (up v a 8 (nI j)) a 7 (mk c (psB (v2 84) (v ((a + 5) + 1) j) (v ((a + 5) + 2) j) S)) ∧ v2' 81 13 = -1 ∧ v2' 84 = upd (upd (v2 84) 56 (nI p)) 57 (mk c (psB (v2 84) (v ((a + 5) + 1) j) (v ((a + 5) + 2) j) S)))) := by
  have hc := ho.1
  obtain ⟨h1, h2, h3⟩ := hD
  have hk := k_desc h ho hj hS
  obtain ⟨v2', e2, f2, e12, hcase⟩ := m_desc ho hp hl hSx h3
  rw [h1, h2] at hk hA ⊢
  rcases hA with ⟨ha1, ha2⟩ | ⟨k, hk1, ha1, ha2, ha3, ha4⟩
  · rw [if_pos ha1] at hk
    rcases hcase with ⟨z1, z2, z3⟩ | ⟨z1, z0, z2, z3⟩ | ⟨z1, z2, z3, k, z4, z5⟩ | ⟨z1, z2, z3, z4⟩ | ⟨z1, z2, _⟩
    · rw [if_pos z1] at hk
      exact ⟨_, _, v2', hk, e2, f2, e12, Or.inr (Or.inl ⟨Or.inl rfl, rfl, z2, z3⟩)⟩
    · rw [if_neg z1, if_pos z0] at hk
      exact ⟨_, _, v2', hk, e2, f2, e12, Or.inr (Or.inl ⟨Or.inr rfl, rfl, z2, z3⟩)⟩
    · obtain ⟨j', q1, q2⟩ := cn_one hc z1
      have hF : cn c (fvB (v2 84) (Wv (v2 84) (dN (Wv (v2 84)) p)) (dX (Wv (v2 84)) p)) ≠ 0 := by
        have := cn_mono (n := c) (P := psB (v2 84) (Wv (v2 84) (dN (Wv (v2 84)) p)) (dX (Wv (v2 84)) p) S) (Q := fvB (v2 84) (Wv (v2 84) (dN (Wv (v2 84)) p)) (dX (Wv (v2 84)) p)) (fun k _ hq => by
          unfold psB at hq
          unfold fvB
          simp at hq ⊢
          exact hq.1)
        omega
      rw [if_neg hF, if_neg (by omega), if_pos z1] at hk
      have hjk : j' = k := (cn_1 z1 z4.1 z4.2.1 j' q1.1).mp q1.2.1
      subst hjk
      exact ⟨_, _, v2', hk, e2, f2, e12, Or.inl ⟨j', z4.1, q2, rfl, z2, z5, z3, by have := z4.2.1; unfold psB at this; simp at this; exact this.2⟩⟩
    · have hF : cn c (fvB (v2 84) (Wv (v2 84) (dN (Wv (v2 84)) p)) (dX (Wv (v2 84)) p)) ≠ 0 := by
        have := cn_mono (n := c) (P := psB (v2 84) (Wv (v2 84) (dN (Wv (v2 84)) p)) (dX (Wv (v2 84)) p) S) (Q := fvB (v2 84) (Wv (v2 84) (dN (Wv (v2 84)) p)) (dX (Wv (v2 84)) p)) (fun k _ hq => by
          unfold psB at hq
          unfold fvB
          simp at hq ⊢
          exact hq.1)
        omega
      rw [if_neg hF, if_neg (by omega), if_neg (by omega)] at hk
      exact ⟨_, _, v2', hk, e2, f2, e12, Or.inr (Or.inr ⟨rfl, z1, rfl, z3, z4⟩)⟩
    · exact absurd (by rw [ha2]; decide) z2
  · rw [if_neg (by rw [ha1]; exact pw_ne (by omega))] at hk
    have hF : cn c (fvB (v2 84) (Wv (v2 84) (dN (Wv (v2 84)) p)) (dX (Wv (v2 84)) p)) ≠ 0 := by
      have := cn_mono (n := c) (P := psB (v2 84) (Wv (v2 84) (dN (Wv (v2 84)) p)) (dX (Wv (v2 84)) p) S) (Q := fvB (v2 84) (Wv (v2 84) (dN (Wv (v2 84)) p)) (dX (Wv (v2 84)) p)) (fun k _ hq => by
        unfold psB at hq
        unfold fvB
        simp at hq ⊢
        exact hq.1)
      omega
    rcases hcase with ⟨z1, _⟩ | ⟨_, z1, _⟩ | ⟨z1, _⟩ | ⟨_, z2, _⟩ | ⟨z1, z2, z3, z4, z5⟩
    · exact absurd z1 hF
    · omega
    · omega
    · rw [ha2] at z2
      exact absurd z2 (nI_nle (by omega) (by omega))
    · exact ⟨_, _, v2', hk, e2, f2, e12, Or.inl ⟨k, hk1, ha1, rfl, z3, by rw [z5, ha2, nI_pred], z4, by unfold psB at ha4; simp at ha4; exact ha4.2⟩⟩
