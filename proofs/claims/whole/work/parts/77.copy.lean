/-! a run of longs copied -/
theorem iI_nn {z : Int} (h : 0 ≤ z) (h2 : z < 2147483648) : ¬ iI z < 0 ∧ (iI z).toNatClampNeg = z.toNat ∧ (iI z).toInt = z := by
  have e : (iI z).toInt = z := iI_toInt ⟨by omega, by omega⟩
  refine ⟨fun q => ?_, iI_clamp h h2, e⟩
  have q2 := Int32.lt_iff_toInt_lt.mp q
  rw [e] at q2
  have : (0 : Int32).toInt = 0 := rfl
  omega
theorem V_copyl {g : Gl} {mi : MI} {R : Room} {QF : QFT} {pc : Nat} {ls : List (Option MV)} {st : List MV} {k n idx a0 a1 N0 N1 : Nat} {σ : St} {sp dp z : Int} (hd : decode mi.1 pc = .ok (.invokestatic idx, 3)) (hlk : Cond.methodLink mi.2.1.cls idx arraycopyName ∈ gTbl) (h0 : gl σ a0 = some (.inr (1, N0))) (h1 : gl σ a1 = some (.inr (1, N1)))
    (hb : (0 ≤ sp ∧ 0 ≤ dp ∧ 0 ≤ z) ∧ sp + z ≤ N0 ∧ dp + z ≤ N1) (hf : 1 ≤ R.frames) (hlo : wds st + (nativeFrameWords "java/lang/System" "arraycopy" 5 + 11) ≤ R.locals)
    (kk : V g mi R QF (pc + 3) ls st k n (setL σ a1 (va_cpy (gL σ a0) (gL σ a1) sp.toNat dp.toNat z.toNat))) : V g mi R QF pc ls (vi z :: vi dp :: vq (some a1) :: vi sp :: vq (some a0) :: st) k n σ := by
  intro p e s m args below meth c H locs la C hH hS hl
  have hKS := C.2.2.2.2.2.2.2.2
  have hts := C.2.2.2.2.2.2.1
  have hg := ks_ok hKS
  have hK := ks_K hKS
  obtain ⟨a08, -, hN0, hc0⟩ := hH.2.2 a0 _ h0
  obtain ⟨a18, -, hN1, hc1⟩ := hH.2.2 a1 _ h1
  obtain ⟨s1, s2, s3⟩ := iI_nn hb.1.1 (by omega)
  obtain ⟨d1, d2, d3⟩ := iI_nn hb.1.2.1 (by omega)
  obtain ⟨z1, z2, z3⟩ := iI_nn hb.1.2.2 (by omega)
  have hc0' : H[gad g a0]? = some (arrV (gcA g 1) N0 (fun j => .long (gL σ a0 j))) := hc0
  have hc1' : H[gad g a1]? = some (arrV (gcA g 1) N1 (fun j => .long (gL σ a1 j))) := hc1
  intro T hT X
  obtain ⟨-, k0, hk0, cm0, hkk0⟩ := (hK.2 1 _ rfl).1 N0 (fun j => .long (gL σ a0 j))
  obtain ⟨-, k1, hk1, cm1, hkk1⟩ := (hK.2 1 _ rfl).1 N1 (fun j => .long (gL σ a1 j))
  have e1 : copied (arrV (gcA g 1) N0 (fun j => .long (gL σ a0 j))) (arrV (gcA g 1) N1 (fun j => .long (gL σ a1 j))) (iI sp) (iI dp) (iI z) = arrV (gcA g 1) N1 (fun j => .long (va_cpy (gL σ a0) (gL σ a1) (iI sp).toNatClampNeg (iI dp).toNatClampNeg (iI z).toNatClampNeg j)) := va_copied (fun z => .long z) (gcA g 1) (gcA g 1) (gL σ a0) (gL σ a1) (by rw [s2, z2]; omega)
  obtain ⟨vm', X', step⟩ := X.arraycopy C.1 C.2.2.2.2.1 (hts _ hlk) (hts _ sw_acn) (hts _ sw_acs) (hts _ sw_aci) (src := gad g a0) (dst := gad g a1) (cs := arrV (gcA g 1) N0 (fun j => .long (gL σ a0 j))) (cd := arrV (gcA g 1) N1 (fun j => .long (gL σ a1 j))) (srcPos := iI sp) (destPos := iI dp) (n := iI z) (by rw [hT]; exact hc0') (by rw [hT]; exact hc1')
    (fun _ h => by cases h) (fun _ h => by cases h) (fun h => by cases h) (fun h => by cases h) hk0 hk1 hkk0 hkk1 (by rfl) s1 d1 z1
    (by rw [s3, z3, arrV_size]; omega)
    (by rw [d3, z3, arrV_size]; omega)
    (fun vm₁ _ i hi => by
      have e : (arrV (gcA g 1) N0 (fun j => .long (gL σ a0 j))).slots.getD ((iI sp).toNatClampNeg + i) .null = .long (gL σ a0 ((iI sp).toNatClampNeg + i)) := by
        rw [Array.getD_eq_getD_getElem?, arrV_read _ _ (by rw [s2]; omega)]
        rfl
      rw [e]
      exact ⟨rfl, trivial⟩)
    (g := F0 m pc la ((vi z :: vi dp :: vq (some a1) :: vi sp :: vq (some a0) :: st).map (rv g))) rfl (by rw [C.2.2.1]; exact hl.1) (rest := st.map (rv g)) rfl (by rw [C.2.1]; exact hd) hf (by show 2 * 0 + _ + _ ≤ _; rw [wds_cat]; omega)
  rw [e1, s2, d2, z2] at X' step
  have hl2 : gad g a1 < H.size := (Array.getElem?_eq_some_iff.mp hc1').1
  have hheap : ((T.setVm vm').setCell (gad g a1) (arrV (gcA g 1) N1 (fun j => .long (va_cpy (gL σ a0) (gL σ a1) sp.toNat dp.toNat z.toNat j)))).heap = H.setIfInBounds (gad g a1) (arrV (gcA g 1) N1 (fun j => .long (va_cpy (gL σ a0) (gL σ a1) sp.toNat dp.toNat z.toNat j))) := by rw [← hT]; rfl
  have oq : ∀ q : Nat, q ≠ gad g a1 → (H.setIfInBounds (gad g a1) (arrV (gcA g 1) N1 (fun j => .long (va_cpy (gL σ a0) (gL σ a1) sp.toNat dp.toNat z.toNat j))))[q]? = H[q]? := fun q hq => by simp [Array.getElem?_setIfInBounds, Ne.symm hq]
  have hbs := gad_bs hg a18.1
  obtain ⟨t, a1', b1⟩ := kk p e s m args below meth c _ _ la C (hH.setL (f := va_cpy (gL σ a0) (gL σ a1) sp.toNat dp.toNat z.toNat) hg h1 (by simp) oq ⟨by decide, hN1, by simp [Array.getElem?_setIfInBounds, hl2]; rfl⟩) ⟨by simp; exact hS.1, fun q g1 g2 => by
      rw [oq q (fun e => g2 (by rw [e]; exact hbs))]
      exact hS.2.1 q g1 g2, fun q hq => by
      rcases List.mem_append.mp hq with h | h
      · exact hS.2.2 q h
      · obtain ⟨y, -, hz⟩ := List.mem_map.mp h
        rw [← hz]
        exact hbs⟩ hl _ hheap X'
  exact ⟨t, step t a1', b1⟩
