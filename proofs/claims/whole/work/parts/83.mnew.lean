/-! rows of rows made -/
def addM (σ : St) (N K : Nat) : St :=
  (fun b => if b = gn σ then some (.inr (7, N)) else if gn σ < b ∧ b ≤ gn σ + N then some (.inr (0, K)) else gl σ b, gn σ + 1 + N,
   fun b => if gn σ ≤ b ∧ b ≤ gn σ + N then fun _ => 0 else gG σ b, fun b => if gn σ ≤ b ∧ b ≤ gn σ + N then fun _ => 0 else gL σ b,
   fun b => if b = gn σ then (fun i => if i < N then some (gn σ + 1 + i) else none) else if gn σ < b ∧ b ≤ gn σ + N then fun _ => none else gP σ b)
theorem mstr : "[" ++ (FieldType.array FieldType.int).toString = "[[I" := by decide +kernel
theorem outer_arr (c : ClassId) (N h0 : Nat) : ∀ i : Nat, Jvm.Free.Multi.outerC c N h0 i = arrV c N (fun j => va_rf (if j < i then some (h0 + 1 + j) else none))
  | 0 => (show ({ cls := c, slots := Array.replicate N .null, vm := .none } : Cell) = _ from (arrV_new ..).trans (congrArg (arrV c N) (funext fun j => rfl)))
  | i + 1 => by
    have e : Jvm.Free.Multi.outerC c N h0 (i + 1) = (Jvm.Free.Multi.outerC c N h0 i).setSlot i (.ref (h0 + 1 + i)) := rfl
    rw [e, outer_arr c N h0 i, arrV_store]
    refine congrArg (arrV c N) (funext fun j => ?_)
    by_cases q : j = i
    · subst q
      simp [updV, va_rf]
    · by_cases h : j < i
      · simp [updV, q, h, Nat.lt_succ_of_lt h]
      · simp [updV, q, h, show ¬ j < i + 1 by omega]
theorem V_mnew {g : Gl} {mi : MI} {R : Room} {QF : QFT} {pc : Nat} {ls : List (Option MV)} {st : List MV} {k n idx : Nat} {σ : St} {N K : Nat} (hd : decode mi.1 pc = .ok (.multianewarray idx 2, 4)) (hlk : Cond.classLink mi.2.1.cls idx "[[I" ∈ gTbl) (hN : N ≤ 100) (hK : K ≤ 100) (hk : k + (1 + N) ≤ R.cells) (hn : n + (N + N * K) ≤ R.slots)
    (kk : V g mi R QF (pc + 4) ls (vq (some (gn σ)) :: st) (k + 1 + N) (n + N + N * K) (addM σ N K)) : V g mi R QF pc ls (vi (K : Int) :: vi (N : Int) :: st) k n σ := by
  intro p e s m args below meth c H locs la C hH hS hl
  have hKS := C.2.2.2.2.2.2.2.2
  have hKK := ks_K hKS
  have hg := ks_ok hKS
  have hts := C.2.2.2.2.2.2.1
  have hcN : (iI (N : Int)).toNatClampNeg = N := by rw [iI_clamp (by omega) (by omega)]; omega
  have hcK : (iI (K : Int)).toNatClampNeg = K := by rw [iI_clamp (by omega) (by omega)]; omega
  have h0N : ¬ iI (N : Int) < 0 := fun q => by have := (iI_lt0 ⟨by omega, by omega⟩).mp q; omega
  have h0K : ¬ iI (K : Int) < 0 := fun q => by have := (iI_lt0 ⟨by omega, by omega⟩).mp q; omega
  have hao : va_Nw (.arrayOver (.array .int)) s := hKS.2.2.2.2.2.2.2.2.2.2.1
  have hac : Cond.arrayClass .int ∈ gTbl := by decide +kernel
  have hcl : (Cond.classLink mi.2.1.cls idx ("[" ++ (FieldType.array FieldType.int).toString)).before args s = true := by rw [mstr]; exact hts _ hlk
  intro T hT Xs
  obtain ⟨vm₁, cA, comp, -, fA, fC, hO, -, X', step⟩ := Xs.multianewarray2F C.1 (ty := .int) C.2.2.2.2.1 hcl (show (Cond.arrayOver (.array .int)).before args s = true from hao) (hts _ hac) (g := F0 m pc la ((vi (K : Int) :: vi (N : Int) :: st).map (rv g))) rfl (by rw [C.2.1]; exact hd) (n := iI (N : Int)) (k := iI (K : Int)) (rest := st.map (rv g)) rfl h0N h0K (by rw [hcN]; omega) (by rw [hcK]; simp [componentBytes]; omega) (by rw [hcK]; omega) (by decide) (by decide) (by rw [hcN]; exact hk) (by rw [hcN, hcK]; exact hn)
  rw [hcN, hcK] at X' step
  have eA : cA = gcA g 7 := oinj (fA.symm.trans (hKK.2 7 _ rfl).2)
  have eC : comp = gcA g 0 := oinj (fC.symm.trans (hKK.2 0 _ rfl).2)
  subst eA
  subst eC
  generalize hF : Jvm.Free.Multi.fill (T.setVm vm₁) (gcA g 7) (gcA g 0) N K (defaultValue .int) N = F at X' step
  have hTh : (T.setVm vm₁).heap = H := hT
  obtain ⟨f1, f2, -, -⟩ := Jvm.Free.Multi.fill_facts (T.setVm vm₁) (gcA g 7) (gcA g 0) N K (defaultValue .int) N
  rw [hF, hTh] at f1 f2
  have hold : ∀ x : Nat, x < H.size → F.heap[x]? = H[x]? := fun x hx => by
    have := Jvm.Free.Multi.fill_old (T.setVm vm₁) (gcA g 7) (gcA g 0) N K (defaultValue .int) (a := x) (by rw [hTh]; exact hx) N
    rw [hF, hTh] at this
    exact this
  have hrow : ∀ j : Nat, j < N → F.heap[H.size + 1 + j]? = some (arrV (gcA g 0) K (fun _ => .int 0)) := fun j hj => by
    have := Jvm.Free.Multi.fill_inner (T.setVm vm₁) (gcA g 7) (gcA g 0) N K (defaultValue .int) N j hj
    rw [hF, hTh] at this
    rw [this, ← arrV_new]
    rfl
  have hsz := hH.1
  have h8 := hH.2.1
  have hgn : ∀ i, gad g (gn σ + i) = H.size + i := fun i => by
    have h1 := hg.1 (gn σ + i) (by omega)
    have h2 := hg.1 (gn σ) h8
    omega
  have e0 : gad g (gn σ) = H.size := hgn 0
  have hHR : HR g (addM σ N K) F.heap := by
    refine ⟨?_, (show 8 ≤ gn σ + 1 + N by omega), fun b sh hb => ?_⟩
    · show F.heap.size = gad g (gn σ + 1 + N)
      rw [f1, show gn σ + 1 + N = gn σ + (1 + N) by omega, hgn]; omega
    · have hb' : (if b = gn σ then some ((.inr (7, N)) : Sh) else if gn σ < b ∧ b ≤ gn σ + N then some (.inr (0, K)) else gl σ b) = some sh := hb
      by_cases q1 : b = gn σ
      · rw [if_pos q1] at hb'
        cases hb'
        refine ⟨⟨by omega, (show b < gn σ + 1 + N by omega)⟩, by decide, by omega, ?_⟩
        rw [q1, e0, f2, outer_arr]
        refine congrArg (fun q => some (arrV (gcA g 7) N q)) (funext fun j => ?_)
        have eP : gP (addM σ N K) (gn σ) j = if j < N then some (gn σ + 1 + j) else none := congrFun (show (if gn σ = gn σ then (fun i => if i < N then some (gn σ + 1 + i) else none) else _) = _ from if_pos rfl) j
        rw [evr_ref (by decide), eP]
        by_cases hj : j < N
        · rw [if_pos hj, if_pos hj]
          show va_rf (some (H.size + 1 + j)) = va_rf (some (gad g (gn σ + 1 + j)))
          rw [show gn σ + 1 + j = gn σ + (1 + j) by omega, hgn, show H.size + (1 + j) = H.size + 1 + j by omega]
        · rw [if_neg hj, if_neg hj]; rfl
      · rw [if_neg q1] at hb'
        by_cases q2 : gn σ < b ∧ b ≤ gn σ + N
        · rw [if_pos q2] at hb'
          cases hb'
          refine ⟨⟨by omega, (show b < gn σ + 1 + N by omega)⟩, by decide, by omega, ?_⟩
          obtain ⟨j, rfl⟩ : ∃ j, b = gn σ + (1 + j) := ⟨b - gn σ - 1, by omega⟩
          rw [hgn, show H.size + (1 + j) = H.size + 1 + j by omega, hrow j (by omega)]
          refine congrArg (fun q => some (arrV (gcA g 0) K q)) (funext fun i => ?_)
          have eG : gG (addM σ N K) (gn σ + (1 + j)) = fun _ => 0 := (show (if gn σ ≤ gn σ + (1 + j) ∧ gn σ + (1 + j) ≤ gn σ + N then fun _ => 0 else _) = _ from if_pos (by omega))
          rw [eG]; rfl
        · rw [if_neg q2] at hb'
          obtain ⟨r1, r2⟩ := hH.2.2 b sh hb'
          refine ⟨⟨r1.1, (show b < gn σ + 1 + N by omega)⟩, ?_⟩
          have x1 : gG (addM σ N K) b = gG σ b := if_neg (by omega)
          have x2 : gL (addM σ N K) b = gL σ b := if_neg (by omega)
          have x3 : gP (addM σ N K) b = gP σ b := (if_neg q1).trans (if_neg q2)
          rw [x1, x2, x3]
          have hb1 := hg.1 b r1.1
          have hb2 := hg.1 (gn σ) h8
          exact r2.kept (hold _ (by omega))
  obtain ⟨t, a1, b1⟩ := kk p e s m args below meth c F.heap locs la C hHR (vaS_add hS (by omega) hold) hl F rfl X'
  refine ⟨t, step t ?_, b1⟩
  have e : T.heap.size = H.size := by rw [hT]
  rw [e, ← e0]
  exact a1
