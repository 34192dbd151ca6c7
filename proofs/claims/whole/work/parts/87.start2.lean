theorem sF_n : gn sFS = 93 := by decide +kernel
theorem sF_l : ∀ a, a < 93 → gl sFS a = layF a := by decide +kernel
theorem sF_r : ∀ q ∈ refT, ∀ k, k < q.2.length → q.2.getD k none ≠ none → gP sFS q.1 k = q.2.getD k none := by decide +kernel
theorem layF_93 {a : Nat} (h : 93 ≤ a) : layF a = none := by
  have e : layT.length = 93 := by decide +kernel
  unfold layF
  rw [List.getD_eq_getElem?_getD, List.getElem?_eq_none (by omega)]; rfl
theorem refF_of {a k b : Nat} (h : refF a k = some b) : ∃ q ∈ refT, q.1 = a ∧ k < q.2.length ∧ q.2.getD k none = some b := by
  unfold refF at h
  cases e : refT.find? (fun q => q.1 == a) with
  | none => rw [e] at h; cases h
  | some q =>
    rw [e] at h
    have h1 := List.find?_some e
    have h2 := List.mem_of_find?_eq_some e
    have h3 : q.2.getD k none = some b := h
    refine ⟨q, h2, by simpa using h1, ?_, h3⟩
    rcases Nat.lt_or_ge k q.2.length with x | x
    · exact x
    · rw [List.getD_eq_getElem?_getD, List.getElem?_eq_none x] at h3; cases h3
theorem sF_std : Std sFS := by
  refine ⟨Nat.le_of_eq sF_n.symm, fun a s e => ?_, fun a k b e => ?_⟩
  · rcases Nat.lt_or_ge a 93 with h | h
    · rw [sF_l a h]; exact e
    · rw [layF_93 h] at e; cases e
  · obtain ⟨q, h1, h2, h3, h4⟩ := refF_of e
    have := sF_r q h1 k h3 (by rw [h4]; exact fun z => by cases z)
    rw [h2, h4] at this
    exact this
def A0 : Ab := (gG sFS 78, gG sFS 79, fun _ => 0, gG sFS 81, gG sFS 87, gG sFS 88, gG sFS 89, gG sFS 90, gL sFS 91)
theorem sF_w : (aW A0 0 = 100 ∧ aW A0 1 = 4 ∧ aW A0 2 = 3 ∧ aW A0 3 = 2 ∧ aW A0 4 = 0 ∧ aW A0 5 = 0 ∧ aW A0 6 = 0) ∧ (gG sFS 13 0 = 100 ∧ gG sFS 13 1 = 4 ∧ gG sFS 13 2 = 3 ∧ gG sFS 13 3 = 2) ∧ (gG sFS 9 4 = 0 ∧ gG sFS 9 5 = 0 ∧ gG sFS 9 6 = 0) ∧ (gG sFS 53 0 = 0 ∧ gG sFS 54 0 = 0) ∧ gG sFS 8 2 = 0 ∧ gG sFS 20 4 = 0 ∧ gG sFS 8 5 = 0 := by decide +kernel
theorem sF_p : ∀ p, p < 6 → aP A0 p = 0 ∧ aK A0 p = 0 ∧ aZ A0 p = 0 ∧ aI A0 p = 0 ∧ gP sFS 19 p = none := by decide +kernel
theorem A0_ai : AI A0 0 := by
  obtain ⟨⟨w0, w1, w2, w3, w4, w5, w6⟩, -⟩ := sF_w
  refine ⟨?_, ⟨Or.inl rfl, fun z => by cases (show (0 : Int) = 1 from z)⟩, ⟨Int.le_refl _, Int.le_refl _⟩, ⟨Int.le_refl _, Int.le_refl _⟩, ⟨⟨Int.le_refl _, (by decide : (0 : Int) ≤ 80)⟩, fun k hk => absurd (show (k : Int) < 0 from hk) (by omega)⟩, ⟨fun i hi => by rw [w4] at hi; omega, fun i j hi => by rw [w4] at hi; omega⟩, fun p hp => ?_⟩
  · unfold WF
    rw [w0, w1, w2, w3, w4, w5, w6]
    exact ⟨by decide, by decide, by decide, by decide, by decide, by decide, by decide, fun i hi => by omega, fun i hi => by omega, fun i hi => by omega⟩
  · obtain ⟨p1, p2, p3, p4, -⟩ := sF_p p hp
    have c : aC A0 1 = 0 := rfl
    rw [p1, p2, p3, p4, c]
    decide
theorem A0_cl : CL sFS A0 := by
  obtain ⟨⟨w0, w1, w2, w3, w4, w5, w6⟩, ⟨r0, r1, r2, r3⟩, ⟨n4, n5, n6⟩, z, y2, t4, y5⟩ := sF_w
  refine ⟨sF_std, ⟨⟨r0.trans w0.symm, r1.trans w1.symm, r2.trans w2.symm, r3.trans w3.symm⟩, ⟨n4.trans w4.symm, n5.trans w5.symm, n6.trans w6.symm⟩, fun i hi => ?_, fun i hi => ?_, fun i hi => ?_⟩, z, sF_nb, ⟨y2, fun q => by cases (show (0 : Int) = 1 from q)⟩, ⟨t4, fun k hk => absurd (show (k : Int) < 0 from hk) (by omega)⟩, y5, fun i j hi => ?_, fun p hp => ?_, fun p q b c hp hq hpq h4 => ?_⟩
  · rw [w4] at hi; omega
  · rw [w5] at hi; omega
  · rw [w6] at hi; omega
  · rw [w4] at hi; omega
  · exact Or.inl ⟨(sF_p p hp).1, (sF_p p hp).2.2.2.2⟩
  · rw [(sF_p p hp).1] at h4; omega
