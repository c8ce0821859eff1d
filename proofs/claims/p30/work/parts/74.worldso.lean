/-! things are where they can be: the law's look at a picture says yes -/
def CX (s : Nat → Int32) (c : Nat) : Prop := ∃ P : Nat → Bool, s 57 = mk c P ∧ (∀ k, k < c → P k = true → visB s k = true) ∧ cn c P ≠ 1
theorem in_vis {s : Nat → Int32} {k : Nat} (h : inB s 4 k = true) : visB s k = true := by
  unfold inB at h
  unfold visB nxB nrB
  rw [of_decide_eq_true h]
  simp
theorem w230 {v : gV} {s : Nat → Int32} {i p : Nat} (F : gV → Int32 → Int32 → Int32 → Int32 → Option Int32) {V : Nat → Bool} {b : Bool} (hb : V i = b) (hp : s (4 * i + 3) = nI p) : sL_isWorldSo_230 1000 F v (mk i V) (mk i (inB s 4)) 1 (nI i) (nI p) (bI b) = F v (mk (i + 1) V) (mk (i + 1) (inB s 4)) 1 (nI (i + 1)) := by
  have e1 : nI i + 1 = nI (i + 1) := nI_add i 1
  unfold sL_isWorldSo_230 sL_isWorldSo_246
  by_cases z : nI p = 4
  · have ei : inB s 4 i = true := by unfold inB; rw [hp, z]; rfl
    cases b
    · rw [if_pos bI_f, if_pos z, or_0, mk_s0 hb, mk_s1 ei, e1]
    · rw [if_neg (by decide), if_pos z, mk_s1 hb, mk_s1 ei, e1]
  · have ei : inB s 4 i = false := by unfold inB; rw [hp]; exact decide_eq_false z
    cases b
    · rw [if_pos bI_f, if_neg z, or_0, or_0, mk_s0 hb, mk_s0 ei, e1]
    · rw [if_neg (by decide), if_neg z, or_0, mk_s1 hb, mk_s0 ei, e1]
theorem w173o {v w : gV} {c i p : Nat} (h : IB v w c) (hi : i < c) (F : gV → Int32 → Int32 → Int32 → Int32 → Option Int32) (hp : w 84 (4 * i + 3) = nI p) (h5 : p < 5) : sL_isWorldSo_173 1000 F v (mk i (visB (w 84))) (mk i (inB (w 84) 4)) (nI i) (nI p) 0 1 = F v (mk (i + 1) (visB (w 84))) (mk (i + 1) (inB (w 84) 4)) 1 (nI (i + 1)) := by
  have l4 : nI p ≤ 4 := (le_4 (by omega)).mpr (by omega)
  have hv : visB (w 84) i = nrB (w 84) (nI p) := by
    unfold visB nxB
    rw [hp, decide_eq_true l4]
    simp
  unfold sL_isWorldSo_173 sL_isWorldSo_192 sL_isWorldSo_209
  rw [if_pos rfl]
  by_cases z : nI p = 4
  · rw [if_pos z, if_pos rfl]
    exact w230 F (b := true) (by rw [hv, z]; unfold nrB; simp) hp
  · rw [if_neg z, q_room h, ob]
    by_cases z2 : nI p = w 84 49
    · rw [if_pos z2, if_pos rfl]
      exact w230 F (b := true) (by rw [hv]; unfold nrB; simp [z2]) hp
    · rw [if_neg z2]
      exact w230 F (b := false) (by rw [hv]; unfold nrB; simp [z2, z]) hp
theorem w173i {v w : gV} {c i p : Nat} (h : IB v w c) (hi : i < c) (F : gV → Int32 → Int32 → Int32 → Int32 → Option Int32) (hp : w 84 (4 * i + 3) = nI p) (h5 : 5 ≤ p) (hc : p - 5 < c) : sL_isWorldSo_173 1000 F v (mk i (visB (w 84))) (mk i (inB (w 84) 4)) (nI i) (nI p) 1 1 = F v (mk (i + 1) (visB (w 84))) (mk (i + 1) (inB (w 84) 4)) 1 (nI (i + 1)) := by
  have h12 := h.1.1
  have l4 : ¬ nI p ≤ 4 := fun q => by have := (le_4 (by omega)).mp q; omega
  obtain ⟨r, hr, er⟩ := h.1.2.2.1
  have hix : ixP (w 84) i = p - 5 := by unfold ixP; rw [hp, nI_clamp (by omega)]
  have n4 : ¬ nI p = 4 := fun q => by have := (nI_eq (b := 4) (by omega) (by decide)).mp q; omega
  have nr : nrB (w 84) (nI p) = false := by
    unfold nrB
    rw [er, decide_eq_false (fun q => by have := (nI_eq (by omega) (by omega)).mp q; omega), decide_eq_false n4]
    rfl
  have hv : visB (w 84) i = (opB (w 84) (p - 5) && nrB (w 84) (w 84 (4 * (p - 5) + 3))) := by
    unfold visB nxB
    rw [hp, nr, hix, decide_eq_false l4, decide_eq_true (show p - 5 < 12 by omega)]
    simp
  unfold sL_isWorldSo_173 sL_isWorldSo_192 sL_isWorldSo_209
  rw [if_neg one_ne, sub_5 h5, q_place h hc, ob]
  have f : nrB (w 84) (w 84 (4 * (p - 5) + 3)) = true → ((sX5_isOpen v (nI (p - 5))).bind fun q_21 => if q_21 = 0 then sL_isWorldSo_230 1000 F v (mk i (visB (w 84))) (mk i (inB (w 84) 4)) 1 (nI i) (nI p) 0 else sL_isWorldSo_230 1000 F v (mk i (visB (w 84))) (mk i (inB (w 84) 4)) 1 (nI i) (nI p) 1) = F v (mk (i + 1) (visB (w 84))) (mk (i + 1) (inB (w 84) 4)) 1 (nI (i + 1)) := by
    intro hn
    rw [q_isOpen h hc, ob]
    rw [hn, Bool.and_true] at hv
    cases z : opB (w 84) (p - 5)
    · rw [if_pos bI_f]
      exact w230 F (b := false) (hv.trans z) hp
    · rw [if_neg (by decide)]
      exact w230 F (b := true) (hv.trans z) hp
  by_cases z : w 84 (4 * (p - 5) + 3) = 4
  · rw [if_pos z, if_neg one_ne]
    exact f (by unfold nrB; simp [z])
  · rw [if_neg z, q_room h, ob]
    by_cases z2 : w 84 (4 * (p - 5) + 3) = w 84 49
    · rw [if_pos z2, if_neg one_ne]
      exact f (by unfold nrB; simp [z2])
    · rw [if_neg z2]
      exact w230 F (b := false) (by rw [hv]; unfold nrB; simp [z, z2]) hp
theorem w125 {v w : gV} {c i : Nat} (h : IB v w c) (hi : i < c) (F : gV → Int32 → Int32 → Int32 → Int32 → Option Int32) (w1 w2 w5 w6 : Int32) : sL_isWorldSo_125 1000 F v w1 w2 (nI i) w5 w6 = sL_isWorldSo_173 1000 F v w1 w2 (nI i) w5 w6 1 := by
  have h12 := h.1.1
  obtain ⟨⟨a, ha, ea⟩, ⟨b, hb, eb⟩, _⟩ := h.1.2.2.2.1 i hi
  obtain ⟨_, hu, _⟩ := h.1.2.2.2.2.2.2.1
  unfold sL_isWorldSo_125
  rw [q_noun h hi, ob, q_adjective h hi, ob, ea, eb, q_fitting h ha hb, ob, pw_e]
  have e1 : mk c (fitB (w 84) (nI a) (nI b)) = pw i := by
    rw [← mk_single (n := c) (by omega) hi]
    refine mk_congr fun k hk => ?_
    unfold fitB
    rw [decide_eq_false (nI_m1 (by omega)), decide_eq_false (nI_m1 (by omega)), Bool.false_or, Bool.false_or]
    by_cases z : k = i
    · subst z; simp [ea, eb]
    · rw [decide_eq_false z, Bool.and_eq_false_iff]
      by_cases q : w 84 (4 * k + 1) = nI a
      · right
        exact decide_eq_false fun q2 => z (hu k i hk hi (q.trans ea.symm) (q2.trans eb.symm))
      · left
        exact decide_eq_false q
  rw [if_pos e1, ob, q_fittingN h ha, ob, shr1 (by omega) _ (by omega)]
  have e2 : (decide (i < c) && fitB (w 84) (nI a) (-1) i) = true := by
    unfold fitB
    simp [hi, ea]
  rw [e2, bI_t, if_pos rfl]
theorem w82 {v w : gV} {c i : Nat} (h : IB v w c) (hi : i < c) (F : gV → Int32 → Int32 → Int32 → Int32 → Option Int32) (w1 w2 w5 w6 : Int32) : sL_isWorldSo_82 1000 F v w1 w2 (nI i) w5 w6 = sL_isWorldSo_173 1000 F v w1 w2 (nI i) w5 w6 1 := by
  have h12 := h.1.1
  obtain ⟨_, _, _, _, _, hL, ⟨hX1, hX2, hX3⟩, _⟩ := h.1
  have l5 := hL (5 + i) (by omega) (by omega)
  rw [if_neg (show ¬ 5 + i = 4 by omega)] at l5
  have e5 : (5 : Int32) + nI i = nI (5 + i) := add_5 i
  unfold sL_isWorldSo_82
  rw [e5, q_objectsAt h (by omega), ob, q_isBox h hi, ob]
  unfold sL_isWorldSo_104
  rw [q_isOpen h hi, ob, q_isBox h hi, ob, w125 h hi]
  cases z : cntB (w 84) i
  · have c0 : cn c (inB (w 84) (nI (5 + i))) = 0 := by
      rw [cn_0]
      intro k hk
      unfold inB
      refine decide_eq_false fun q => ?_
      have := (hX1 k hk (5 + i) (by omega) (by omega) q).1
      rw [show 5 + i - 5 = i by omega, z] at this
      exact absurd this (by decide)
    rw [if_pos bI_f, c0, if_neg (by decide)]
    cases z2 : opB (w 84) i
    · rw [if_pos bI_f]
    · have := hX3 i hi (of_decide_eq_true z2)
      rw [z] at this
      exact absurd this (by decide)
  · rw [if_neg (by decide), if_neg (show ¬ (4 : Int32) < nI (cn c (inB (w 84) (nI (5 + i)))) from nI_nlt (a := 4) l5 (by decide)), if_neg (show ¬ bI true = 0 by decide)]
    cases z2 : opB (w 84) i
    · rw [if_pos bI_f]
    · rw [if_neg (by decide)]
theorem w_step {v w : gV} {c i : Nat} (h : IB v w c) (hi : i < c) (K : Nat) {R : Option Int32} (hR : sL_isWorldSo_23 1000 K v (mk (i + 1) (visB (w 84))) (mk (i + 1) (inB (w 84) 4)) 1 (nI (i + 1)) = R) : sL_isWorldSo_23 1000 (K + 1) v (mk i (visB (w 84))) (mk i (inB (w 84) 4)) 1 (nI i) = R := by
  have h12 := h.1.1
  obtain ⟨_, _, ⟨p, hp, ep⟩, _⟩ := h.1.2.2.2.1 i hi
  obtain ⟨hX1, _, _⟩ := h.1.2.2.2.2.2.2.1
  unfold sL_isWorldSo_23
  rw [q_objects h, ob, if_neg (s_le (c := c) rfl hi h12), q_place h hi, ob, ep]
  rcases hp with hp | ⟨h5, hpc⟩
  · rw [if_pos ((le_4 (by omega)).mpr (by omega))]
    unfold sL_isWorldSo_51
    rw [if_neg one_ne, if_pos rfl, w82 h hi, w173o h hi _ ep hp]
    exact hR
  · rw [if_neg (fun q => by have := (le_4 (by omega)).mp q; omega)]
    unfold sL_isWorldSo_51
    rw [if_neg one_ne, if_neg one_ne, sub_5 h5, q_isBox h hpc, ob, q_isBox h hi, ob, (hX1 i hi p h5 (by omega) ep).1, (hX1 i hi p h5 (by omega) ep).2, if_neg (by decide), if_pos bI_f, w82 h hi, w173i h hi _ ep h5 hpc]
    exact hR
theorem w_end {v w : gV} {c : Nat} (h : IB v w c) (hx : CX (w 84) c) (K : Nat) : sL_isWorldSo_23 1000 (K + 1) v (mk c (visB (w 84))) (mk c (inB (w 84) 4)) 1 (nI c) = some 1 := by
  have h12 := h.1.1
  obtain ⟨_, _, _, _, hit, _, ⟨hX1, hX2, hX3⟩, ⟨Q, eQ, nQ⟩⟩ := h.1
  obtain ⟨P, eP, vP, nP⟩ := hx
  have f1 : sX5_fitting 1000 v 1 (-1) = some (mk c (fitB (w 84) 1 (-1))) := q_fittingN (a := 1) h (by decide)
  have f5 : sX5_fitting 1000 v 5 (-1) = some (mk c (fitB (w 84) 5 (-1))) := q_fittingN (a := 5) h (by decide)
  have u0 : sX5_suitable 1000 v 0 = some (mk c (suitB (w 84) 0)) := q_suitable (x := 0) h (by decide)
  have u1 : sX5_suitable 1000 v 1 = some (mk c (suitB (w 84) 1)) := q_suitable (x := 1) h (by decide)
  have u2 : sX5_suitable 1000 v 2 = some (mk c (suitB (w 84) 2)) := q_suitable (x := 2) h (by decide)
  have u3 : sX5_suitable 1000 v 3 = some (mk c (suitB (w 84) 3)) := q_suitable (x := 3) h (by decide)
  have u4 : sX5_suitable 1000 v 4 = some (mk c (suitB (w 84) 4)) := q_suitable (x := 4) h (by decide)
  have hb : mk c (fitB (w 84) 1 (-1)) ||| mk c (fitB (w 84) 5 (-1)) = mk c (cntB (w 84)) := by
    rw [mk_or (by omega)]
    refine mk_congr fun k _ => ?_
    unfold fitB cntB
    rw [show (decide ((-1 : Int32) = -1)) = true by decide, Bool.true_or, Bool.and_true, Bool.and_true, decide_eq_false (show ¬ (1 : Int32) = -1 by decide), decide_eq_false (show ¬ (5 : Int32) = -1 by decide), Bool.false_or, Bool.false_or]
  have s1 : mk c (suitB (w 84) 1) = mk c (inB (w 84) 4) := rfl
  have s0 : mk c (suitB (w 84) 0) = mk c (visB (w 84)) &&& (mk c (inB (w 84) 4) ^^^ (-1)) := (mk_andn (by omega) _ _).symm
  have s2 : mk c (suitB (w 84) 2) = mk c (inB (w 84) 4) &&& (mk c (cntB (w 84)) ^^^ (-1)) := (mk_andn (by omega) _ _).symm
  have s3 : mk c (suitB (w 84) 3) = (mk c (visB (w 84)) &&& mk c (cntB (w 84))) &&& (mk c (suitB (w 84) 4) ^^^ (-1)) := by
    rw [mk_and (by omega), mk_andn (by omega)]
    refine mk_congr fun k _ => ?_
    show (visB (w 84) k && cntB (w 84) k && !opB (w 84) k) = ((visB (w 84) k && cntB (w 84) k) && !(visB (w 84) k && opB (w 84) k))
    cases visB (w 84) k <;> cases cntB (w 84) k <;> cases opB (w 84) k <;> rfl
  have s4 : mk c (suitB (w 84) 4) &&& ((mk c (visB (w 84)) &&& mk c (cntB (w 84))) ^^^ (-1)) = 0 := by
    rw [mk_and (by omega), mk_andn (by omega), mk_0 (by omega)]
    intro k hk
    show ((visB (w 84) k && opB (w 84) k) && !(visB (w 84) k && cntB (w 84) k)) = false
    cases z : opB (w 84) k
    · cases visB (w 84) k <;> rfl
    · rw [hX3 k hk (of_decide_eq_true z)]
      cases visB (w 84) k <;> rfl
  have sP : mk c P &&& (mk c (visB (w 84)) ^^^ (-1)) = 0 := by
    rw [mk_andn (by omega), mk_0 (by omega)]
    intro k hk
    show (P k && !visB (w 84) k) = false
    cases z : P k
    · rfl
    · rw [vP k hk z]; rfl
  have ne1 : ∀ R : Nat → Bool, cn c R ≠ 1 → ¬ nI (cn c R) = 1 := fun R hR q => hR ((nI_eq (b := 1) (by have := cn_le c R; omega) (by decide)).mp q)
  unfold sL_isWorldSo_23
  rw [q_objects h, ob, if_pos (s_ge (c := c) rfl rfl h12), f1, ob, f5, ob, u4, ob, if_neg one_ne, q_visible h, ob, if_pos rfl, u1, ob, if_pos s1, u0, ob, if_pos s0, u2, ob, hb, if_pos s2, u3, ob, if_pos s3, if_pos s4]
  unfold sL_isWorldSo_375
  rw [if_neg one_ne, q_them h, ob, eQ, l_size h12, ob, if_neg (ne1 Q nQ), q_candidates h, ob, eP, if_pos sP, ob, l_size h12, ob, if_neg (ne1 P nP), q_it h, ob]
  have n1 : ¬ w 84 50 < -1 := by
    rcases hit with e | ⟨k, hk, e⟩
    · rw [e]; decide
    · rw [e]; exact (show ∀ k, k < 12 → ¬ nI k < -1 by decide +kernel) k (by omega)
  rw [if_neg n1, ob, q_objects h, ob, ob]
  unfold sL_isWorldSo_440
  by_cases z : c = 0
  · subst z
    rw [if_pos (show nI 0 = 0 from rfl)]
    rcases hit with e | ⟨k, hk, e⟩
    · rw [e, if_neg (by decide)]
    · omega
  · rw [if_neg (show ¬ nI c = 0 from fun q => z ((nI_eq (b := 0) (by omega) (by decide)).mp q))]
    rcases hit with e | ⟨k, hk, e⟩
    · rw [e, if_neg ((show ∀ c, c < 13 → ¬ nI c ≤ -1 by decide +kernel) c (by omega))]
    · rw [e, if_neg (nI_ge hk (by omega))]
theorem l_worldSo {v w : gV} {c : Nat} (h : IB v w c) (hx : CX (w 84) c) : sL_isWorldSo 1000 v = some 1 := by
  have h12 := h.1.1
  have hL := h.1.2.2.2.2.2.1 4 (by decide) (by decide)
  rw [if_pos rfl] at hL
  have go : ∀ d i K, i + d = c → sL_isWorldSo_23 1000 (K + 1 + d) v (mk i (visB (w 84))) (mk i (inB (w 84) 4)) 1 (nI i) = some 1 := by
    intro d
    induction d with
    | zero =>
      intro i K hi
      have : i = c := by omega
      subst this
      exact w_end h hx K
    | succ d ih =>
      intro i K hi
      exact w_step h (by omega) (K + 1 + d) (ih (i + 1) K (by omega))
  unfold sL_isWorldSo
  rw [show (4 : Int32) = nI 4 from rfl, q_objectsAt h (by decide), ob, if_neg (show ¬ (6 : Int32) < nI (cn c (inB (w 84) (nI 4))) from nI_nlt (a := 6) hL (by decide))]
  have e := go c 0 (999 - c) (by omega)
  rw [show (999 - c) + 1 + c = 1000 by omega] at e
  exact e
theorem CX_of {v w : gV} (h : SR v 8 (w 84)) : ∃ c, IB v w c ∧ CX (w 84) c := by
  obtain ⟨c, hb, h2⟩ := h
  refine ⟨c, hb, ?_⟩
  rcases h2 with ⟨_, _, e⟩ | ⟨_, m, P, vb, L, j, _, _, _, _, _, _, _, _, _, e, hc⟩
  · refine ⟨fun _ => false, ?_, fun k _ q => Bool.noConfusion (show false = true from q), ?_⟩
    · rw [e]
      exact ((mk_0 (by have := hb.1.1; omega)).mpr fun k _ => rfl).symm
    · rw [cn_0.mpr fun k _ => rfl]
      decide
  · refine ⟨_, e, fun k _ q => ?_, by omega⟩
    unfold GG psB at q
    cases z : visB (w 84) k
    · rw [z, Bool.and_false, Bool.false_and] at q
      exact absurd q (by decide)
    · rfl
