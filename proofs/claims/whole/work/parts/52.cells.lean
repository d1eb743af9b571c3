/-! an interviewer more -/
theorem comes_c {RI : Nat → Int32} {k : Nat} {area load : Int32} (hk : k < 5) (c1 : fX9_in area 0 3 = true) (c2 : fX9_in load 1 9 = true) : fX5_addInterviewer RI (nI k) area load = (nI k, upd (upd RI (iI k 0) area) (iI k 1) load, nI (k + 1)) := by
  unfold fX5_addInterviewer
  rw [in_eq]
  simp only [bd_1]
  rw [if_pos c1, if_pos c2, if_pos (show nI k < 5 from nI_lt hk (by decide)), pI_0 hk, pI_1 hk, nI_1]
theorem comes_m {S : Nat → Int32} {k : Nat} {area load : Int32} (hk : k < 5) (s1 : S 1 = nI k) (c1 : fX9_in area 0 3 = true) (c2 : fX9_in load 1 9 = true) : fX9_comes S area load = (nI k, upd (upd (upd S (iW k 0) area) (iW k 1) load) 1 (nI (k + 1))) := by
  unfold fX9_comes
  simp only [bd_1]
  rw [if_pos c1, if_pos c2, if_neg (show ¬ S 1 = 5 from fun e => by rw [s1] at e; have := (nI_eq (a := k) (b := 5) (by omega) (by decide)).mp e; omega)]
  rw [s1, tW_0 hk, u_Wn (by decide), s1, tW_1 hk, u_Wn (by decide), u_Wn (by decide), s1, nI_1, u_is, nI_pred]
theorem sim_comes {B n k : Nat} {RA RI RC S : Nat → Int32} {dy vl db : Int32} (h : rel B n k RA RI RC dy vl db S) (area load : Int32) : (fX5_addInterviewer RI (nI k) area load).1 = (fX9_comes S area load).1 ∧ relT B RA (fX5_addInterviewer RI (nI k) area load).2.1 RC (nI n) (fX5_addInterviewer RI (nI k) area load).2.2 dy vl db (fX9_comes S area load).2 := by
  obtain ⟨⟨⟨hn, hk⟩, ⟨s0, s1, s2, s6, s7⟩, hdy, hvl, hdb⟩, hr, he, hi, hik, hz2, hc, hs⟩ := id h
  have same : relT B RA RI RC (nI n) (nI k) dy vl db S := ⟨n, k, rfl, rfl, h⟩
  by_cases c1 : fX9_in area 0 3 = true
  · by_cases c2 : fX9_in load 1 9 = true
    · by_cases c3 : k = 5
      · subst c3
        have e1 : fX5_addInterviewer RI (nI 5) area load = (-3, RI, nI 5) := by
          unfold fX5_addInterviewer
          rw [in_eq]
          simp only [bd_1]
          rw [if_pos c1, if_pos c2, if_neg (show ¬ nI 5 < 5 by decide)]
        have e2 : fX9_comes S area load = (-3, S) := by
          unfold fX9_comes
          simp only [bd_1]
          rw [if_pos c1, if_pos c2, if_pos (show S 1 = 5 by rw [s1]; rfl)]
        rw [e1, e2]
        exact ⟨rfl, same⟩
      · have hk' : k < 5 := by omega
        rw [comes_c hk' c1 c2, comes_m hk' s1 c1 c2]
        dsimp only
        have fP : ∀ a c, upd (upd (upd S (iW k 0) area) (iW k 1) load) 1 (nI (k + 1)) (iP a c) = S (iP a c) := fun a c => by rw [u_nP (by decide), u_WP hk' (by decide), u_WP hk' (by decide)]
        have fn : ∀ j, j < 8 → ¬ j = 1 → upd (upd (upd S (iW k 0) area) (iW k 1) load) 1 (nI (k + 1)) j = S j := fun j h1 h2 => by rw [u_n, if_neg h2, u_Wn h1, u_Wn h1]
        refine ⟨rfl, n, k + 1, rfl, rfl, ⟨⟨hn, by omega⟩, ⟨?_, u_is, ?_, ?_, ?_⟩, hdy, hvl, hdb⟩, fun a ha => ?_, fun a h1 h2 => ?_, fun i h1 => ?_, fun i h1 => ?_, fun i h1 h2 => ?_, fun x hx g hg => ?_, ?_⟩
        · rw [fn 0 (by decide) (by decide)]; exact s0
        · rw [fn 2 (by decide) (by decide)]; exact s2
        · rw [fn 6 (by decide) (by decide)]; exact s6
        · rw [fn 7 (by decide) (by decide)]; exact s7
        · exact ⟨rowR_fr (hr a ha).1 (fun _ _ => rfl) (fun c _ => fP a c), rowK_fr (hr a ha).2 (fun c _ => fP a c)⟩
        · exact rowE_fr (he a h1 h2) (fun _ _ => rfl) (fun c _ => fP a c)
        · intro c hc6
          rw [u_nW (by decide), u_WW hc6 (by decide), u_WW hc6 (by decide), u_II hc6 (by decide), u_II hc6 (by decide), hi i h1 c hc6]
        · by_cases e : i = k
          · subst e
            have a3 := in_rng c1
            have l9 := in_rng c2
            have fW : ∀ c, c < 6 → upd (upd (upd S (iW i 0) area) (iW i 1) load) 1 (nI (i + 1)) (iW i c) = if c = 1 then load else if c = 0 then area else S (iW i c) := fun c hc6 => by
              rw [u_nW (n := 1) (by decide), u_WW hc6 (by decide), u_WW hc6 (by decide)]
              simp
            have e0 : (0 : Int32).toInt = 0 := by decide
            have e1 : (1 : Int32).toInt = 1 := by decide
            unfold stK
            rw [fW 0 (by decide), if_neg (by decide), if_pos rfl, fW 1 (by decide), if_pos rfl, fW 2 (by decide), if_neg (by decide), if_neg (by decide), hz2 i (Nat.le_refl _) hk', e0]
            exact ⟨a3, l9, by omega, by have := l9.1; rw [e1] at this; omega⟩
          · refine stK_fr (hik i (by omega)) (fun c hc6 => ?_)
            rw [u_nW (by decide), u_WW hc6 (by decide), u_WW hc6 (by decide), if_neg (fun q => e q.1), if_neg (fun q => e q.1)]
        · rw [u_nW (by decide), u_WW (by decide) (by decide), u_WW (by decide) (by decide), if_neg (fun q => by omega), if_neg (fun q => by omega)]
          exact hz2 i (by omega) h2
        · have f : ∀ c, c < 3 → upd (upd (upd S (iW k 0) area) (iW k 1) load) 1 (nI (k + 1)) (iC x g c) = S (iC x g c) := fun c hc3 => by rw [u_nC (by decide), u_WC hx hg hc3, u_WC hx hg hc3]
          exact ⟨ceR_fr (hc x hx g hg).1 (fun _ _ => rfl) f, ceK_fr (hc x hx g hg).2 f⟩
        · exact sums_fr hs (fn 3 (by decide) (by decide)) (fn 4 (by decide) (by decide)) (fn 5 (by decide) (by decide)) (fun a _ c _ => fP a c)
    · have e1 : fX5_addInterviewer RI (nI k) area load = (-1, RI, nI k) := by
        unfold fX5_addInterviewer
        rw [in_eq]
        simp only [bd_1]
        rw [if_pos c1, if_neg c2]
      have e2 : fX9_comes S area load = (-1, S) := by
        unfold fX9_comes
        simp only [bd_1]
        rw [if_pos c1, if_neg c2]
      rw [e1, e2]
      exact ⟨rfl, same⟩
  · have e1 : fX5_addInterviewer RI (nI k) area load = (-1, RI, nI k) := by
      unfold fX5_addInterviewer
      rw [in_eq]
      simp only [bd_1]
      rw [if_neg c1]
    have e2 : fX9_comes S area load = (-1, S) := by
      unfold fX9_comes
      simp only [bd_1]
      rw [if_neg c1]
    rw [e1, e2]
    exact ⟨rfl, same⟩
/-! a cell's quota or people -/
theorem cell_idx {area group : Int32} (h : fX9_isCell area group = true) : ∃ x g, x < 4 ∧ g < 3 ∧ area = nI x ∧ group = nI g := by
  unfold fX9_isCell at h
  simp only [bd_1] at h
  split at h
  · rename_i h1
    split at h
    · rename_i h2
      have a := in_rng h1
      have b := in_rng h2
      have e0 : (0 : Int32).toInt = 0 := by decide
      have e2 : (2 : Int32).toInt = 2 := by decide
      have e3 : (3 : Int32).toInt = 3 := by decide
      obtain ⟨x, hx, ex⟩ := nI_of_rng (v := area) (n := 4) (by decide) (by omega) (by omega)
      obtain ⟨g, hg, eg⟩ := nI_of_rng (v := group) (n := 3) (by decide) (by omega) (by omega)
      exact ⟨x, g, hx, hg, ex, eg⟩
    · cases h
  · cases h
theorem change_c {RC : Nat → Int32} {x g : Nat} {v : Int32} (hx : x < 4) (hg : g < 3) : fX5_changeCell RC (nI x) (nI g) 0 v = (RC (iD x g 0), upd RC (iD x g 0) v) ∧ fX5_changeCell RC (nI x) (nI g) 2 v = (RC (iD x g 2), upd RC (iD x g 2) v) := by
  unfold fX5_changeCell
  simp only [bd_1]
  rw [gC_0 hx hg, pC_0 hx hg, gC_2 hx hg, pC_2 hx hg]
  exact ⟨rfl, rfl⟩
theorem puts_m {S : Nat → Int32} {x g : Nat} {v : Int32} (hx : x < 4) (hg : g < 3) : fX9_puts S (nI x) (nI g) 0 v = (S (iC x g 0), upd S (iC x g 0) v) ∧ fX9_puts S (nI x) (nI g) 2 v = (S (iC x g 2), upd S (iC x g 2) v) := by
  unfold fX9_puts
  simp only [bd_1]
  rw [tC_0 hx hg, tC_2 hx hg]
  exact ⟨rfl, rfl⟩
theorem rel_cell {B n k : Nat} {RA RI RC S : Nat → Int32} {dy vl db : Int32} (h : rel B n k RA RI RC dy vl db S) {x g c : Nat} {v : Int32} (hx : x < 4) (hg : g < 3) (hc3 : c < 3) (hK : ceK (upd S (iC x g c) v) x g) : rel B n k RA RI (upd RC (iD x g c) v) dy vl db (upd S (iC x g c) v) := by
  obtain ⟨⟨⟨hn, hk⟩, ⟨s0, s1, s2, s6, s7⟩, hdy, hvl, hdb⟩, hr, he, hi, hik, hz2, hc, hs⟩ := id h
  have fP : ∀ a c', upd S (iC x g c) v (iP a c') = S (iP a c') := fun a c' => u_CP hx hg hc3
  have fW : ∀ a c', upd S (iC x g c) v (iW a c') = S (iW a c') := fun a c' => u_CW hx hg hc3
  have fn : ∀ j, j < 8 → upd S (iC x g c) v j = S j := fun j hj => u_Cn hj
  refine ⟨⟨⟨hn, hk⟩, ⟨?_, ?_, ?_, ?_, ?_⟩, hdy, hvl, hdb⟩, fun a ha => ?_, fun a h1 h2 => ?_, fun i h1 => ?_, fun i h1 => ?_, fun i h1 h2 => ?_, fun y hy f hf => ?_, ?_⟩
  · rw [fn 0 (by decide)]; exact s0
  · rw [fn 1 (by decide)]; exact s1
  · rw [fn 2 (by decide)]; exact s2
  · rw [fn 6 (by decide)]; exact s6
  · rw [fn 7 (by decide)]; exact s7
  · exact ⟨rowR_fr (hr a ha).1 (fun _ _ => rfl) (fun c _ => fP a c), rowK_fr (hr a ha).2 (fun c _ => fP a c)⟩
  · exact rowE_fr (he a h1 h2) (fun _ _ => rfl) (fun c _ => fP a c)
  · exact stR_fr (hi i h1) (fun _ _ => rfl) (fun c _ => fW i c)
  · exact stK_fr (hik i h1) (fun c _ => fW i c)
  · rw [fW]; exact hz2 i h1 h2
  · by_cases e : y = x ∧ f = g
    · obtain ⟨rfl, rfl⟩ := e
      exact ⟨fun c' hc' => by rw [u_DD hf hf hc' hc3, u_CC hf hf hc' hc3, (hc y hy f hf).1 c' hc'], hK⟩
    · refine ⟨ceR_fr (hc y hy f hf).1 (fun c' hc' => ?_) (fun c' hc' => ?_), ceK_fr (hc y hy f hf).2 (fun c' hc' => ?_)⟩
      · rw [u_DD hg hf hc' hc3, if_neg (fun q => e q.1)]
      · rw [u_CC hg hf hc' hc3, if_neg (fun q => e q.1)]
      · rw [u_CC hg hf hc' hc3, if_neg (fun q => e q.1)]
  · exact sums_fr hs (fn 3 (by decide)) (fn 4 (by decide)) (fn 5 (by decide)) (fun a _ c _ => fP a c)
theorem sim_quota {B n k : Nat} {RA RI RC S : Nat → Int32} {dy vl db : Int32} (h : rel B n k RA RI RC dy vl db S) (area group many : Int32) : (fX5_changeQuota RC area group many).1 = (fX9_limits S area group many).1 ∧ relT B RA RI (fX5_changeQuota RC area group many).2 (nI n) (nI k) dy vl db (fX9_limits S area group many).2 := by
  have same : relT B RA RI RC (nI n) (nI k) dy vl db S := ⟨n, k, rfl, rfl, h⟩
  have hc := h.2.2.2.2.2.2.1
  unfold fX5_changeQuota fX9_limits
  rw [in_eq, cell_eq]
  simp only [bd_1]
  by_cases c1 : fX9_isCell area group = true
  · rw [if_pos c1, if_pos c1]
    by_cases c2 : fX9_in many 0 20 = true
    · rw [if_pos c2, if_pos c2]
      obtain ⟨x, g, hx, hg, rfl, rfl⟩ := cell_idx c1
      rw [(change_c hx hg).1, (puts_m hx hg).1, bd_2, bd_2]
      refine ⟨(hc x hx g hg).1 0 (by decide), n, k, rfl, rfl, rel_cell h hx hg (by decide) ?_⟩
      have m20 := in_rng c2
      have z := (hc x hx g hg).2
      unfold ceK
      rw [u_is, u_CC hg hg (by decide) (by decide), if_neg (fun q => by omega), u_CC hg hg (by decide) (by decide), if_neg (fun q => by omega)]
      exact ⟨m20, z.2⟩
    · rw [if_neg c2, if_neg c2]
      exact ⟨rfl, same⟩
  · rw [if_neg c1, if_neg c1]
    exact ⟨rfl, same⟩
