/-! the relation holds at the start -/
theorem zi_h : fX9_init 0 = nI 0 ∧ fX9_init 1 = nI 0 ∧ fX9_init 2 = 0 ∧ fX9_init 6 = 4 ∧ fX9_init 7 = 1 ∧ fX9_init 3 = 0 ∧ fX9_init 4 = 0 ∧ fX9_init 5 = 0 := by decide +kernel
theorem zi_p : ∀ a : Fin 24, ∀ c : Fin 10, fX9_init (iP a.val c.val) = 0 := by decide +kernel
theorem zi_w : ∀ i : Fin 5, ∀ c : Fin 6, fX9_init (iW i.val c.val) = 0 := by decide +kernel
theorem zi_d : ∀ x : Fin 4, ∀ g : Fin 3, ∀ c : Fin 3, fX5_init (iD x.val g.val c.val) = fX9_init (iC x.val g.val c.val) := by decide +kernel
theorem zi_k : ∀ x : Fin 4, ∀ g : Fin 3, (0 ≤ (fX9_init (iC x.val g.val 0)).toInt ∧ (fX9_init (iC x.val g.val 0)).toInt ≤ 20) ∧ (0 ≤ (fX9_init (iC x.val g.val 1)).toInt ∧ (fX9_init (iC x.val g.val 1)).toInt ≤ 20) ∧ (0 ≤ (fX9_init (iC x.val g.val 2)).toInt ∧ (fX9_init (iC x.val g.val 2)).toInt ≤ 9999) := by decide +kernel
theorem zi_rel : rel 0 0 0 (fun _ => 0) (fun _ => 0) fX5_init 0 4 1 fX9_init := by
  obtain ⟨h0, h1, h2, h6, h7, h3, h4, h5⟩ := zi_h
  refine ⟨⟨⟨by decide, by decide⟩, ⟨h0, h1, h2, h6, h7⟩, ⟨by decide, by decide⟩, ⟨by decide, by decide⟩, ⟨by decide, by decide⟩⟩, fun a ha => absurd ha (Nat.not_lt_zero a), fun a _ ha c hc => ⟨rfl, zi_p ⟨a, ha⟩ ⟨c, hc⟩⟩, fun i hi c hc => (zi_w ⟨i, hi⟩ ⟨c, hc⟩).symm, fun i hi => absurd hi (Nat.not_lt_zero i), fun i _ hi => zi_w ⟨i, hi⟩ ⟨2, by decide⟩, fun x hx g hg => ⟨fun c hc => zi_d ⟨x, hx⟩ ⟨g, hg⟩ ⟨c, hc⟩, zi_k ⟨x, hx⟩ ⟨g, hg⟩⟩, ?_⟩
  refine ⟨h3.trans ?_, h4.trans ?_, h5.trans ?_⟩ <;> rfl
theorem lr_init : lawR 0 (fun _ => 0) (fun _ => 0) fX5_init 0 0 0 4 1 0 0 (fun _ => ((fun _ => 0), (fun _ => 0), fX5_init, 0, 0, 0, 4, 1)) (fun _ => 0) 0 fX9_init (fun _ => 0) (fun _ => 0) 0 0 :=
  ⟨0, 0, 0, fun _ => 0, rfl, rfl, rfl, rfl, rfl, ⟨by decide, by decide, fun j hj => absurd hj (Nat.not_lt_zero j)⟩, ⟨0, 0, rfl, rfl, zi_rel⟩, ⟨by decide, fun j hj => absurd hj (Nat.not_lt_zero j), fun _ _ => rfl⟩, fun _ => rfl⟩
