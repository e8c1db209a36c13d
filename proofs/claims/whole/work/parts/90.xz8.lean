-- class and reference side by side: literals, the beginning
theorem lit_code {u v : jU} (h : Rl u v) (r a b : Int32) : kc xIS xIA (pcLit u r a b) = cdx (if v 0 1 = 0 then 1 else 0) (if v 0 1 ≤ 0 then 0 else (if m_fine v r a b = 0 then 1 else 0)) (if m_fine v r a b = 0 then 0 else (if v 12 (tn (if v 0 1 ≤ 0 then 0 else v 0 1 - 1)) = 4 then 1 else 0)) ∧ (pcLit u r a b = none ↔ (pcRule u = none ∧ pcTerms u r a b = none ∧ tn (u 12 (tn (u 0 1) - 1)) < 4)) := by
  obtain ⟨hP, hW, hC, hV⟩ := h
  have ht := terms_uv hV.1.1 hP.1 hP.2.2.1 r a b
  have hK := hW.1.2.2
  have hK2 := hK.2
  have hle : v 0 1 ≤ 0 ↔ v 0 1 = 0 := by
    rw [← hP.2.1]
    have h1 := inN_leN (n := 0) hK (by decide) (by decide)
    constructor
    · intro z
      have h2 : tn (u 0 1) ≤ 0 := h1.mp z
      rw [hK.1, show tn (u 0 1) = 0 by omega]
      rfl
    · intro z; rw [z]; decide
  by_cases c0 : v 0 1 = 0
  · have c0' : u 0 1 = 0 := by rw [hP.2.1]; exact c0
    have hp : pcRule u = some xIS := by unfold pcRule; rw [if_pos c0']
    have hpc : pcLit u r a b = some xIS := by unfold pcLit; rw [hp, if_neg (by decide)]
    rw [hpc, if_pos c0, hp]
    exact ⟨by unfold cdx; rw [if_neg (by decide)]; decide, by simp⟩
  · have c0' : ¬ u 0 1 = 0 := by rw [hP.2.1]; exact c0
    have hp : pcRule u = none := by unfold pcRule; rw [if_neg c0']
    have cle : ¬ v 0 1 ≤ 0 := fun z => c0 (hle.mp z)
    have hix := rule_ix hW.1 hp
    have hpos := rule_pos hW.1 hp
    have hfine : m_fine v r a b = 0 ↔ m_areTerms v r a b = 0 := by
      unfold m_fine
      rw [if_neg cle]
      by_cases d : m_areTerms v r a b = 0
      · rw [if_pos d]; simp [d]
      · rw [if_neg d]; simp [d]
    rw [if_neg c0, if_neg cle, if_neg cle]
    by_cases c1 : m_areTerms v r a b = 0
    · have hpt := (pcTerms_or u r a b).resolve_left (fun z => ht.mp z c1)
      have hpc : pcLit u r a b = some xIA := by unfold pcLit; rw [if_pos hp, hpt, if_neg (by decide)]
      rw [if_pos (hfine.mpr c1), if_pos (hfine.mpr c1), hpc, hpt]
      exact ⟨by decide, by simp⟩
    · have hpt := ht.mpr c1
      have hnf : ¬ m_fine v r a b = 0 := fun z => c1 (hfine.mp z)
      rw [if_neg hnf, if_neg hnf]
      have ei : tn (v 0 1 - 1) = tn (u 0 1) - 1 := by rw [← hP.2.1, hix]; exact nI_clamp (by omega)
      rw [ei]
      have hsz := hW.2.1.1 (tn (u 0 1) - 1) (by omega)
      have hsz2 := hsz.2
      have e12 : v 12 (tn (u 0 1) - 1) = u 12 (tn (u 0 1) - 1) := by rw [hP.2.2.2.1.1]
      rw [e12]
      have hfull : b2i (pFull u (tn (u 0 1) - 1)) = 0 ↔ tn (u 12 (tn (u 0 1) - 1)) < 4 := by
        have h1 := inN_ltN (n := 4) hsz (by decide) (by decide)
        unfold pFull
        by_cases d : u 12 (tn (u 0 1) - 1) < 4
        · rw [decide_eq_false (fun z => z d)]
          exact ⟨fun _ => h1.mp d, fun _ => rfl⟩
        · rw [decide_eq_true d]
          exact ⟨fun z => absurd z (by decide), fun z => absurd (h1.mpr z) d⟩
      by_cases c2 : tn (u 12 (tn (u 0 1) - 1)) < 4
      · have hpc : pcLit u r a b = none := by unfold pcLit; rw [if_pos hp, if_pos hpt, if_pos (hfull.mpr c2)]
        have h4 : ¬ u 12 (tn (u 0 1) - 1) = 4 := fun z => by
          rw [z] at c2
          exact absurd c2 (by decide)
        rw [if_neg h4, hpc]
        exact ⟨by decide, by simp [hp, hpt, c2]⟩
      · have hpc : pcLit u r a b = some xUO := by unfold pcLit; rw [if_pos hp, if_pos hpt, if_neg (fun z => c2 (hfull.mp z))]
        have h4 : u 12 (tn (u 0 1) - 1) = 4 := by
          rw [hsz.1, show tn (u 12 (tn (u 0 1) - 1)) = 4 by omega]
          rfl
        rw [if_pos h4, hpc]
        exact ⟨by decide, by simp [c2]⟩
theorem add_rows {u : jU} {i s : Nat} {r a b z : Int32} (hs : tn (u 12 i) = s) (hlt : u 12 i < 4) : (∀ c, c ∉ [12, 13, 14, 15, 16, 17, 18, 19] → pAdd u i r a b z c = u c) ∧ pAdd u i r a b z 16 = upd (u 16) (5 * i + 1 + s) r ∧ pAdd u i r a b z 17 = upd (u 17) (5 * i + 1 + s) a ∧ pAdd u i r a b z 18 = upd (u 18) (5 * i + 1 + s) b ∧ pAdd u i r a b z 19 = upd (u 19) (5 * i + 1 + s) z ∧ pAdd u i r a b z 12 = upd (u 12) i (u 12 i + 1) ∧ pAdd u i r a b z 13 = upd (u 13) i (u 13 i ||| pVars (pAdd u i r a b z) (5 * i + 1 + s)) ∧ (z = 0 → pAdd u i r a b z 14 = upd (u 14) i (u 14 i ||| pVars (pAdd u i r a b z) (5 * i + 1 + s)) ∧ pAdd u i r a b z 15 = upd (u 15) i (u 15 i ||| 1 <<< (r &&& 31))) ∧ (¬ z = 0 → pAdd u i r a b z 14 = u 14 ∧ pAdd u i r a b z 15 = u 15) := by
  subst hs
  obtain ⟨b0, b16, b17, b18, b19⟩ := put_row u (5 * i + 1 + tn (u 12 i)) r a b z
  have hf : b2i (pFull u i) = 0 := by
    unfold pFull
    rw [decide_eq_false (fun y => y hlt)]
    rfl
  have a1 : ∀ c, c ∉ [16, 17, 18, 19] → pAdd1 u i r a b z c = u c := b0
  have a2c : ∀ c, ¬ c = 12 → pAdd2 u i r a b z c = pAdd1 u i r a b z c := fun c h => by unfold pAdd2; rw [up_rows _ _ _ h]
  have a212 : pAdd2 u i r a b z 12 = upd (u 12) i (u 12 i + 1) := by unfold pAdd2; rw [up_row, a1 12 (by decide)]
  have a3c : ∀ c, ¬ c = 13 → pAdd3 u i r a b z c = pAdd2 u i r a b z c := fun c h => by unfold pAdd3; rw [up_rows _ _ _ h]
  have a4c : ∀ c, ¬ c = 14 → pAdd4 u i r a b z c = pAdd3 u i r a b z c := fun c h => by unfold pAdd4; rw [up_rows _ _ _ h]
  have pvv : ∀ w w' : jU, w' 17 = w 17 → w' 18 = w 18 → ∀ j, pVars w' j = pVars w j := fun w w' h1 h2 j => by unfold pVars; rw [h1, h2]
  have a313 : pAdd3 u i r a b z 13 = upd (u 13) i (u 13 i ||| pVars (pAdd1 u i r a b z) (5 * i + 1 + tn (u 12 i))) := by
    unfold pAdd3
    rw [up_row, a2c 13 (by decide), a1 13 (by decide), pvv (pAdd1 u i r a b z) (pAdd2 u i r a b z) (a2c 17 (by decide)) (a2c 18 (by decide))]
  have a414 : pAdd4 u i r a b z 14 = upd (u 14) i (u 14 i ||| pVars (pAdd1 u i r a b z) (5 * i + 1 + tn (u 12 i))) := by
    unfold pAdd4
    rw [up_row, a3c 14 (by decide), a2c 14 (by decide), a1 14 (by decide), pvv (pAdd1 u i r a b z) (pAdd3 u i r a b z) ((a3c 17 (by decide)).trans (a2c 17 (by decide))) ((a3c 18 (by decide)).trans (a2c 18 (by decide)))]
  by_cases c : z = 0
  · have e : pAdd u i r a b z = up (pAdd4 u i r a b z) 15 i (pAdd4 u i r a b z 15 i ||| 1 <<< (r &&& 31)) := by unfold pAdd; rw [if_pos hf, if_pos c]
    have ec : ∀ q, ¬ q = 15 → pAdd u i r a b z q = pAdd4 u i r a b z q := fun q h => by rw [e, up_rows _ _ _ h]
    have e17 : pAdd u i r a b z 17 = pAdd1 u i r a b z 17 := by rw [ec 17 (by decide), a4c 17 (by decide), a3c 17 (by decide), a2c 17 (by decide)]
    have e18 : pAdd u i r a b z 18 = pAdd1 u i r a b z 18 := by rw [ec 18 (by decide), a4c 18 (by decide), a3c 18 (by decide), a2c 18 (by decide)]
    rw [pvv (pAdd1 u i r a b z) (pAdd u i r a b z) e17 e18]
    refine ⟨fun q hq => ?_, ?_, ?_, ?_, ?_, ?_, ?_, fun _ => ⟨?_, ?_⟩, fun z => absurd c z⟩
    · simp at hq
      rw [ec q (by omega), a4c q (by omega), a3c q (by omega), a2c q (by omega), a1 q (by simp; omega)]
    · rw [ec 16 (by decide), a4c 16 (by decide), a3c 16 (by decide), a2c 16 (by decide)]; exact b16
    · rw [e17]; exact b17
    · rw [e18]; exact b18
    · rw [ec 19 (by decide), a4c 19 (by decide), a3c 19 (by decide), a2c 19 (by decide)]; exact b19
    · rw [ec 12 (by decide), a4c 12 (by decide), a3c 12 (by decide)]; exact a212
    · rw [ec 13 (by decide), a4c 13 (by decide)]; exact a313
    · rw [ec 14 (by decide)]; exact a414
    · rw [e, up_row, a4c 15 (by decide), a3c 15 (by decide), a2c 15 (by decide), a1 15 (by decide)]
  · have e : pAdd u i r a b z = pAdd3 u i r a b z := by unfold pAdd; rw [if_pos hf, if_neg c]
    rw [e]
    have e17 : pAdd3 u i r a b z 17 = pAdd1 u i r a b z 17 := by rw [a3c 17 (by decide), a2c 17 (by decide)]
    have e18 : pAdd3 u i r a b z 18 = pAdd1 u i r a b z 18 := by rw [a3c 18 (by decide), a2c 18 (by decide)]
    rw [pvv (pAdd1 u i r a b z) (pAdd3 u i r a b z) e17 e18]
    refine ⟨fun q hq => ?_, ?_, ?_, ?_, ?_, ?_, a313, fun y => absurd y c, fun _ => ⟨?_, ?_⟩⟩
    · simp at hq
      rw [a3c q (by omega), a2c q (by omega), a1 q (by simp; omega)]
    · rw [a3c 16 (by decide), a2c 16 (by decide)]; exact b16
    · rw [e17]; exact b17
    · rw [e18]; exact b18
    · rw [a3c 19 (by decide), a2c 19 (by decide)]; exact b19
    · rw [a3c 12 (by decide)]; exact a212
    · rw [a3c 14 (by decide), a2c 14 (by decide), a1 14 (by decide)]
    · rw [a3c 15 (by decide), a2c 15 (by decide), a1 15 (by decide)]
theorem sim_literal {u v : jU} (h : Rl u v) (r a b z : Int32) (hz : z = 0 ∨ z = 1) : kc xIS xIA (pcLit u r a b) = (m_literal v r a b z).2 0 4 ∧ (pcLit u r a b = none → pLit1 u r a b z 12 (tn (u 0 1) - 1) = (m_literal v r a b z).1) ∧ Rl (pLit u r a b z) (m_literal v r a b z).2 := by
  have hh := h
  obtain ⟨k1, k2⟩ := lit_code h r a b
  obtain ⟨hP, hW, hC, hV⟩ := h
  unfold m_literal
  rw [refuse_eq, ← k1]
  dsimp only
  by_cases c : pcLit u r a b = none
  · obtain ⟨hp, hpt, hs4⟩ := k2.mp c
    have e0 : kc xIS xIA (pcLit u r a b) = 0 := by rw [c]; rfl
    rw [e0, if_pos (by decide)]
    dsimp only
    have hix := rule_ix hW.1 hp
    have hpos := rule_pos hW.1 hp
    have hK := hW.1.2.2
    have hK2 := hK.2
    have eK : tn (v 0 1) = tn (u 0 1) := by rw [hP.2.1]
    have hsz := hW.2.1.1 (tn (u 0 1) - 1) (by omega)
    obtain ⟨s1, s2⟩ := inN_succ hsz (by decide)
    have hr8 := rel_in hW.1 (terms_rel hpt)
    obtain ⟨ta, tb⟩ := terms_tm hpt
    have e12v : v 12 (tn (u 0 1) - 1) = u 12 (tn (u 0 1) - 1) := by rw [hP.2.2.2.1.1]
    have ej : mLj v = 5 * (tn (u 0 1) - 1) + 1 + tn (u 12 (tn (u 0 1) - 1)) := by unfold mLj; rw [eK, e12v]; omega
    have hl4 : u 12 (tn (u 0 1) - 1) < 4 := (inN_ltN (n := 4) hsz (by decide) (by decide)).mpr hs4
    -- the class's state
    have d1 : pLit u r a b z = pLit1 u r a b z := by unfold pLit; rw [if_pos c]
    have es : pLit1 u r a b z = pStale (pAdd u (tn (u 0 1) - 1) r (pFst u r a) (pSnd u r b) z) := rfl
    obtain ⟨f3, f4, f0, f1, fc⟩ := stale_flags (pAdd u (tn (u 0 1) - 1) r (pFst u r a) (pSnd u r b) z)
    rw [← es] at f3 f4 f0 f1 fc
    obtain ⟨b0, b16, b17, b18, b19, b12, b13, b14, b14n⟩ := add_rows (u := u) (i := tn (u 0 1) - 1) (r := r) (a := pFst u r a) (b := pSnd u r b) (z := z) rfl hl4
    have e12w : up v 0 4 0 12 (tn (u 0 1) - 1) = u 12 (tn (u 0 1) - 1) := by rw [up_rows _ _ _ (by decide)]; exact e12v
    rw [eK, ej, e12w]
    generalize hi : tn (u 0 1) - 1 = i at *
    generalize hsx : tn (u 12 i) = s at *
    have hi16 : i < 16 := by omega
    have p00 : pLit1 u r a b z 0 0 = u 0 0 := by rw [f0, b0 0 (by decide)]
    have p01 : pLit1 u r a b z 0 1 = u 0 1 := by rw [f1, b0 0 (by decide)]
    have pcx : ∀ c, ¬ c = 0 → c ∉ [12, 13, 14, 15, 16, 17, 18, 19] → pLit1 u r a b z c = u c := fun c h0 hc => by rw [fc c h0]; exact b0 c hc
    rw [← fc 17 (by decide)] at b17
    rw [← fc 18 (by decide)] at b18
    rw [← fc 16 (by decide)] at b16
    rw [← fc 19 (by decide)] at b19
    rw [← fc 12 (by decide)] at b12
    have epv : pVars (pAdd u i r (pFst u r a) (pSnd u r b) z) (5 * i + 1 + s) = pVars (pLit1 u r a b z) (5 * i + 1 + s) := by unfold pVars; rw [fc 17 (by decide), fc 18 (by decide)]
    rw [← fc 13 (by decide), epv] at b13
    rw [← fc 14 (by decide), ← fc 15 (by decide), epv] at b14
    rw [← fc 14 (by decide), ← fc 15 (by decide)] at b14n
    have hpv : ∀ y, y < 32 → bt (pVars (pLit1 u r a b z) (5 * i + 1 + s)) y = (decide (20 ≤ y) && ocx (pLit1 u r a b z) (5 * i + 1 + s) (y - 20)) := fun y hy => pVars_bt (by rw [b17, upd_at]; exact ta) (by rw [b18, upd_at]; exact tb) hy
    -- the reference's state
    obtain ⟨c0, c16, c17, c18, c19⟩ := mput_row (up (up v 0 4 0) 12 i (u 12 i + 1)) (5 * i + 1 + s) r a b z
    have v1 : up (up v 0 4 0) 12 i (u 12 i + 1) 1 = v 1 := (up_rows _ _ _ (by decide)).trans (up_rows _ _ _ (by decide))
    rw [v1] at c17 c18
    generalize hy : up (m_put (up (up v 0 4 0) 12 i (u 12 i + 1)) (5 * i + 1 + s) r a b z) 0 3 0 = y
    have y0 : m_put (up (up v 0 4 0) 12 i (u 12 i + 1)) (5 * i + 1 + s) r a b z 0 = up v 0 4 0 0 := (c0 0 (by decide)).trans (up_rows _ _ _ (by decide))
    have z00 : y 0 0 = v 0 0 := by rw [← hy, up_idx _ _ (by decide), y0, up_idx _ _ (by decide)]
    have z01 : y 0 1 = v 0 1 := by rw [← hy, up_idx _ _ (by decide), y0, up_idx _ _ (by decide)]
    have z03 : y 0 3 = 0 := by rw [← hy, up_same]
    have z04 : y 0 4 = 0 := by rw [← hy, up_idx _ _ (by decide), y0, up_same]
    have zat : ∀ c, ¬ c = 0 → y c = m_put (up (up v 0 4 0) 12 i (u 12 i + 1)) (5 * i + 1 + s) r a b z c := fun c h0 => by rw [← hy, up_rows _ _ _ h0]
    have zc : ∀ c, ¬ c = 0 → c ∉ [12, 16, 17, 18, 19] → y c = v c := fun c h0 hc => by
      rw [zat c h0, c0 c (fun q => hc (by simp at q ⊢; omega)), up_rows _ _ _ (fun e => hc (by rw [e]; decide)), up_rows _ _ _ h0]
    have z12 : y 12 = upd (v 12) i (u 12 i + 1) := by rw [zat 12 (by decide), c0 12 (by decide), up_row, up_rows _ _ _ (by decide)]
    have z16 : y 16 = upd (v 16) (5 * i + 1 + s) r := by rw [zat 16 (by decide), c16, up_rows _ _ _ (by decide), up_rows _ _ _ (by decide)]
    have z17 : y 17 = upd (v 17) (5 * i + 1 + s) (pFst u r a) := by rw [zat 17 (by decide), c17, up_rows _ _ _ (by decide), up_rows _ _ _ (by decide), fst_uv hP.2.2.1]
    have z18 : y 18 = upd (v 18) (5 * i + 1 + s) (pSnd u r b) := by rw [zat 18 (by decide), c18, up_rows _ _ _ (by decide), up_rows _ _ _ (by decide), snd_uv hP.2.2.1]
    have z19 : y 19 = upd (v 19) (5 * i + 1 + s) z := by rw [zat 19 (by decide), c19, up_rows _ _ _ (by decide), up_rows _ _ _ (by decide)]
    have pgz : pgq y (pLit1 u r a b z) := by
      have g := hP.2.2.2.1
      exact ⟨by rw [b12, z12, g.1], by rw [b16, z16, g.2.1], by rw [b17, z17, g.2.2.1], by rw [b18, z18, g.2.2.2.1], by rw [b19, z19, g.2.2.2.2]⟩
    have hRu : wfR (pLit1 u r a b z) := wfR_put hW.2.1 hr8 ta tb hz (fun k hk => by
      rw [b12]
      by_cases e : k = i
      · rw [e, upd_at, s1]; exact inN_nI (by omega) (by decide)
      · rw [upd_ne _ _ e]; exact hW.2.1.1 k hk) b16 b17 b18 b19
    have hRz : wfR y := wfR_pg pgz.sy hRu
    rw [d1]
    refine ⟨by rw [z04], fun _ => by rw [b12, z12, upd_at, upd_at], ⟨p00.trans (hP.1.trans z00.symm), p01.trans (hP.2.1.trans z01.symm), (pcx 1 (by decide) (by decide)).trans (hP.2.2.1.trans (zc 1 (by decide) (by decide)).symm), pgz, fun f hf => by rw [gvc_c (pcx 2 (by decide) (by decide)), gvr_c (zc 2 (by decide) (by decide))]; exact hP.2.2.2.2 f hf⟩, ?_, rC_0 f3 f4, ?_⟩
    · have hv6 : wfV (pLit1 u r a b z) := wfV_of hW.1.1.2.2 (pcx 6 (by decide) (by decide))
      refine ⟨⟨wfM_R hRu hv6, by rw [p00]; exact hW.1.2.1, by rw [p01]; exact hK⟩, hRu, fun c hc => by rw [pcx 6 (by decide) (by decide)]; exact hW.2.2.1 c hc, fun f hf => by unfold frs; rw [pcx 5 (by decide) (by decide)]; exact hW.2.2.2.1 f hf, ?_, by rw [p00, gvc_c (pcx 2 (by decide) (by decide))]; exact hW.2.2.2.2.2⟩
      rw [p01, p00]
      intro k hk
      obtain ⟨a1, a2, a3⟩ := hW.2.2.2.2.1 k hk
      have ehd : pLit1 u r a b z 16 (5 * k) = u 16 (5 * k) := by rw [b16, upd_ne _ _ (by omega)]
      rw [ehd]
      by_cases e : k = i
      · subst e
        have n1 : tn (pLit1 u r a b z 12 k) = s + 1 := by rw [b12, upd_at, s2]
        have hold : ∀ q, q < s + 1 → pLit1 u r a b z 17 (5 * k + q) = u 17 (5 * k + q) ∧ pLit1 u r a b z 18 (5 * k + q) = u 18 (5 * k + q) := fun q hq => by rw [b17, b18, upd_ne _ _ (by omega), upd_ne _ _ (by omega)]; exact ⟨rfl, rfl⟩
        have hold1 : ∀ q, q < s → pLit1 u r a b z 17 (5 * k + 1 + q) = u 17 (5 * k + 1 + q) ∧ pLit1 u r a b z 18 (5 * k + 1 + q) = u 18 (5 * k + 1 + q) ∧ pLit1 u r a b z 19 (5 * k + 1 + q) = u 19 (5 * k + 1 + q) := fun q hq => by rw [b17, b18, b19, upd_ne _ _ (by omega), upd_ne _ _ (by omega), upd_ne _ _ (by omega)]; exact ⟨rfl, rfl, rfl⟩
        have hmk : ∀ y, mkx (pLit1 u r a b z) k y = (mkx u k y || ocx (pLit1 u r a b z) (5 * k + 1 + s) y) := by
          intro y
          unfold mkx
          rw [n1, hsx, mkn, mkn_cg (s + 1) hold, show 5 * k + (s + 1) = 5 * k + 1 + s by omega]
        have h19 : pLit1 u r a b z 19 (5 * k + 1 + s) = z := by rw [b19, upd_at]
        have hpx : ∀ y, pvx (pLit1 u r a b z) k y = (pvx u k y || (decide (z = 0) && ocx (pLit1 u r a b z) (5 * k + 1 + s) y)) := by
          intro y
          unfold pvx
          rw [n1, hsx, psn, psn_cg s hold1, h19]
        refine ⟨⟨fun y hy2 => ?_, fun y hy2 => ?_⟩, fun q hq hq0 => ?_, a3⟩
        · rw [b13, upd_at, b_or, a1.1 y hy2, hpv y hy2, hmk]
          cases decide (20 ≤ y) <;> rfl
        · rw [hpx]
          by_cases zz : z = 0
          · rw [(b14 zz).1, upd_at, b_or, a1.2 y hy2, hpv y hy2, decide_eq_true zz]
            cases decide (20 ≤ y) <;> simp
          · rw [(b14n zz).1, a1.2 y hy2, decide_eq_false zz]
            simp
        · rw [n1] at hq
          by_cases eq : q = s
          · subst eq
            rw [h19] at hq0
            rw [(b14 hq0).2, upd_at, b16, upd_at]
            have hrr := hr8.2
            have h9 := (bt_set (u 15 k) (k := tn r) (v := tn r) (by omega) (by omega)).mpr (Or.inr rfl)
            rw [← hr8.1] at h9
            exact h9
          · have hq2 : q < tn (u 12 k) := by rw [hsx]; omega
            rw [(hold1 q (by omega)).2.2] at hq0
            have h9 := a2 q hq2 hq0
            have e16 : pLit1 u r a b z 16 (5 * k + 1 + q) = u 16 (5 * k + 1 + q) := by rw [b16, upd_ne _ _ (by omega)]
            rw [e16]
            by_cases zz : z = 0
            · rw [(b14 zz).2, upd_at, b_or, h9]; rfl
            · rw [(b14n zz).2]; exact h9
      · have hne : ∀ q, q < 5 → 5 * k + q ≠ 5 * i + 1 + s := fun q hq => by omega
        have e1415 : pLit1 u r a b z 14 k = u 14 k ∧ pLit1 u r a b z 15 k = u 15 k := by
          by_cases zz : z = 0
          · rw [(b14 zz).1, (b14 zz).2, upd_ne _ _ e, upd_ne _ _ e]; exact ⟨rfl, rfl⟩
          · rw [(b14n zz).1, (b14n zz).2]; exact ⟨rfl, rfl⟩
        have hcg := rule_cg (w := pLit1 u r a b z) (show k < 16 by omega) hW.2.1 (by rw [b12, upd_ne _ _ e]) (by rw [b13, upd_ne _ _ e]) e1415.1 e1415.2 (fun q hq => by rw [b16, b17, b18, b19, upd_ne _ _ (hne q hq), upd_ne _ _ (hne q hq), upd_ne _ _ (hne q hq), upd_ne _ _ (hne q hq)]; exact ⟨rfl, rfl, rfl, rfl⟩) a1 a2
        exact ⟨hcg.1, hcg.2, a3⟩
    · have hD := hV.1
      refine ⟨⟨by rw [z00]; exact hD.1, by rw [z01]; exact hD.2.1, hRz.1, hRz.2, wfU_of hD.2.2.2.2.1 (zc 6 (by decide) (by decide)), by rw [zc 2 (by decide) (by decide)]; exact hD.2.2.2.2.2⟩, gok_c z00 (zc 2 (by decide) (by decide)) hV.2.1, fun q => absurd z03 q⟩
  · have hne : ¬ kc xIS xIA (pcLit u r a b) = 0 := by
      unfold kc
      rw [if_neg c]
      split
      · decide
      · split <;> decide
    rw [if_neg (by rw [if_neg hne]; decide)]
    dsimp only
    refine ⟨by rw [up_same], fun y => absurd y c, ?_⟩
    unfold pLit
    rw [if_neg c]
    exact Rl_up4 hh _
