/-! the heap's rows -/
theorem gad_inj {g : Gl} (h : GOK g) {a b : Nat} (ha : 8 ≤ a) (hb : 8 ≤ b) (e : gad g a = gad g b) : a = b := by
  have h1 := h.1 a ha
  have h2 := h.1 b hb
  omega
theorem gad_bs {g : Gl} (h : GOK g) {a : Nat} (ha : 8 ≤ a) : gbs g ≤ gad g a := by
  have h1 := h.1 a ha
  omega
theorem cellR.kept {g : Gl} {G : Nat → Int} {L : Nat → Int64} {P : Nat → Option Nat} {H H1 : Heap} {a : Nat} {sh : Sh} (h : cellR g G L P H a sh) (hq : H1[gad g a]? = H[gad g a]?) : cellR g G L P H1 a sh := by
  match sh, h with
  | .inl ci, h =>
    obtain ⟨r, h1, h2⟩ := h
    exact ⟨r, h1, h2.kept hq⟩
  | .inr (t, n), h => exact ⟨h.1, h.2.1, by rw [hq]; exact h.2.2⟩
/-- one place written: the rest stays -/
theorem HR.set {g : Gl} {σ σ' : St} {H H1 : Heap} {a : Nat} {sh : Sh} (hg : GOK g) (h : HR g σ H) (ha : gl σ a = some sh) (hz : H1.size = H.size) (hq : ∀ q : Nat, q ≠ gad g a → H1[q]? = H[q]?)
    (e1 : gl σ' = gl σ) (e2 : gn σ' = gn σ) (e3 : ∀ b, b ≠ a → gG σ' b = gG σ b ∧ gL σ' b = gL σ b ∧ gP σ' b = gP σ b) (hc : cellR g (gG σ' a) (gL σ' a) (gP σ' a) H1 a sh) : HR g σ' H1 := by
  refine ⟨by rw [hz, e2]; exact h.1, by rw [e2]; exact h.2.1, fun b shb hb => ?_⟩
  rw [e1] at hb
  obtain ⟨h1, h2⟩ := h.2.2 b shb hb
  rw [e2]
  refine ⟨h1, ?_⟩
  by_cases e : b = a
  · subst e
    cases ha.symm.trans hb
    exact hc
  · obtain ⟨x1, x2, x3⟩ := e3 b e
    rw [x1, x2, x3]
    refine h2.kept (hq _ fun q => e ?_)
    exact gad_inj hg h1.1 (h.2.2 a sh ha).1.1 q
theorem vaS_put {g : Gl} {H0 H H1 : Heap} {locs : List Loc} {a k : Nat} (hg : GOK g) (ha : 8 ≤ a) (h : va_S (fun q => gbs g ≤ q) H0 H locs) (z : H1.size = H.size) (oq : ∀ q : Nat, q ≠ gad g a → H1[q]? = H[q]?) : va_S (fun q => gbs g ≤ q) H0 H1 (locs ++ [⟨gad g a, k⟩]) :=
  h.put z oq (gad_bs hg ha)
theorem gG_setA (σ : St) (a : Nat) (f : Nat → Int) (b : Nat) : gG (setA σ a f) b = if b = a then f else gG σ b := rfl
theorem gL_setA (σ : St) (a : Nat) (f : Nat → Int) : gL (setA σ a f) = gL σ := rfl
theorem gP_setA (σ : St) (a : Nat) (f : Nat → Int) : gP (setA σ a f) = gP σ := rfl
theorem gl_setA (σ : St) (a : Nat) (f : Nat → Int) : gl (setA σ a f) = gl σ := rfl
theorem gn_setA (σ : St) (a : Nat) (f : Nat → Int) : gn (setA σ a f) = gn σ := rfl
theorem gG_setL (σ : St) (a : Nat) (f : Nat → Int64) : gG (setL σ a f) = gG σ := rfl
theorem gL_setL (σ : St) (a : Nat) (f : Nat → Int64) (b : Nat) : gL (setL σ a f) b = if b = a then f else gL σ b := rfl
theorem gP_setL (σ : St) (a : Nat) (f : Nat → Int64) : gP (setL σ a f) = gP σ := rfl
theorem gl_setL (σ : St) (a : Nat) (f : Nat → Int64) : gl (setL σ a f) = gl σ := rfl
theorem gn_setL (σ : St) (a : Nat) (f : Nat → Int64) : gn (setL σ a f) = gn σ := rfl
theorem gG_setP (σ : St) (a : Nat) (f : Nat → Option Nat) : gG (setP σ a f) = gG σ := rfl
theorem gL_setP (σ : St) (a : Nat) (f : Nat → Option Nat) : gL (setP σ a f) = gL σ := rfl
theorem gP_setP (σ : St) (a : Nat) (f : Nat → Option Nat) (b : Nat) : gP (setP σ a f) b = if b = a then f else gP σ b := rfl
theorem gl_setP (σ : St) (a : Nat) (f : Nat → Option Nat) : gl (setP σ a f) = gl σ := rfl
theorem gn_setP (σ : St) (a : Nat) (f : Nat → Option Nat) : gn (setP σ a f) = gn σ := rfl
theorem HR.setA {g : Gl} {σ : St} {H H1 : Heap} {a : Nat} {sh : Sh} {f : Nat → Int} (hg : GOK g) (h : HR g σ H) (ha : gl σ a = some sh) (hz : H1.size = H.size) (hq : ∀ q : Nat, q ≠ gad g a → H1[q]? = H[q]?) (hc : cellR g f (gL σ a) (gP σ a) H1 a sh) : HR g (setA σ a f) H1 :=
  h.set hg ha hz hq rfl rfl (fun b hb => ⟨by rw [gG_setA, if_neg hb], rfl, rfl⟩) (by rw [gG_setA, if_pos rfl]; exact hc)
theorem HR.setL {g : Gl} {σ : St} {H H1 : Heap} {a : Nat} {sh : Sh} {f : Nat → Int64} (hg : GOK g) (h : HR g σ H) (ha : gl σ a = some sh) (hz : H1.size = H.size) (hq : ∀ q : Nat, q ≠ gad g a → H1[q]? = H[q]?) (hc : cellR g (gG σ a) f (gP σ a) H1 a sh) : HR g (setL σ a f) H1 :=
  h.set hg ha hz hq rfl rfl (fun b hb => ⟨rfl, by rw [gL_setL, if_neg hb], rfl⟩) (by rw [gL_setL, if_pos rfl]; exact hc)
theorem HR.setP {g : Gl} {σ : St} {H H1 : Heap} {a : Nat} {sh : Sh} {f : Nat → Option Nat} (hg : GOK g) (h : HR g σ H) (ha : gl σ a = some sh) (hz : H1.size = H.size) (hq : ∀ q : Nat, q ≠ gad g a → H1[q]? = H[q]?) (hc : cellR g (gG σ a) (gL σ a) f H1 a sh) : HR g (setP σ a f) H1 :=
  h.set hg ha hz hq rfl rfl (fun b hb => ⟨rfl, rfl, by rw [gP_setP, if_neg hb]⟩) (by rw [gP_setP, if_pos rfl]; exact hc)
/-- a field's link: class number ci, its field k -/
def FL (own : String) (idx ci k : Nat) : Prop := ∃ r : vw_C, vwCl[ci]? = some r ∧ k < r.2.2 ∧ Cond.fieldLink own idx (r.2.1 k).1 (r.2.1 k).2.1 (r.2.1 k).2.2.1 ∈ gTbl ∧ (∀ w ∈ u_ws r.1 r.2.1 r.2.2, w ∈ gTbl)
theorem V_getfV {g : Gl} {mi : MI} {R : Room} {QF : QFT} {pc : Nat} {ls : List (Option MV)} {st : List MV} {k n : Nat} {σ : St} {idx ci f a : Nat} (hd : decode mi.1 pc = .ok (.getfield idx, 3)) (hF : FL mi.2.1.cls idx ci f) (ha : gl σ a = some (.inl ci))
    (kk : V g mi R QF (pc + 3) ls (fvr ci f (gG σ a) (gP σ a) :: st) k n σ) : V g mi R QF pc ls (vq (some a) :: st) k n σ := by
  intro p e s m args below meth c H locs la C hH hS hl
  obtain ⟨r, h1, h2, h3, h4⟩ := hF
  obtain ⟨-, r', h5, cell, q1, q2, q3, q4⟩ := hH.2.2 a _ ha
  cases h1.symm.trans h5
  obtain ⟨hSl, hfc, kC, hkC, hkind⟩ := (ks_K C.2.2.2.2.2.2.2.2).1 ci _ h1
  obtain ⟨cf, kf, fi, fd, hi, hsl⟩ := hSl f h2
  have hts := C.2.2.2.2.2.2.1
  refine W.getf C.1 C.2.1 C.2.2.2.2.1 (hts _ h3) hi (u_facts hfc hkC (u_lays hts h4 h2) hi).1 q1 (by rw [q3]; exact fun h => by cases h) (v := rv g (fvr ci f (gG σ a) (gP σ a))) ?_ rfl rfl hd (kk p e s m args below meth c H locs la C hH hS hl)
  rw [hsl, q4 f h2]
theorem V_getfi {g : Gl} {mi : MI} {R : Room} {QF : QFT} {pc : Nat} {ls : List (Option MV)} {st : List MV} {k n : Nat} {σ : St} {idx ci f a : Nat} (hd : decode mi.1 pc = .ok (.getfield idx, 3)) (hF : FL mi.2.1.cls idx ci f) (hk : fk ci f = 0) (ha : gl σ a = some (.inl ci))
    (kk : V g mi R QF (pc + 3) ls (vi (gG σ a f) :: st) k n σ) : V g mi R QF pc ls (vq (some a) :: st) k n σ :=
  V_getfV hd hF ha (by rw [show fvr ci f (gG σ a) (gP σ a) = vi (gG σ a f) from if_pos hk]; exact kk)
theorem V_getfr {g : Gl} {mi : MI} {R : Room} {QF : QFT} {pc : Nat} {ls : List (Option MV)} {st : List MV} {k n : Nat} {σ : St} {idx ci f a : Nat} {b : Option Nat} (hd : decode mi.1 pc = .ok (.getfield idx, 3)) (hF : FL mi.2.1.cls idx ci f) (hk : ¬ fk ci f = 0) (ha : gl σ a = some (.inl ci)) (hb : gP σ a f = b)
    (kk : V g mi R QF (pc + 3) ls (vq b :: st) k n σ) : V g mi R QF pc ls (vq (some a) :: st) k n σ :=
  V_getfV hd hF ha (by rw [show fvr ci f (gG σ a) (gP σ a) = vq (gP σ a f) from if_neg hk, hb]; exact kk)
/-- arrays -/
theorem arr_in {z : Int} {N : Nat} (h : 0 ≤ z ∧ z < N) (hN : N < 2147483648) : vp_in (iI z) N ∧ (iI z).toNatClampNeg = z.toNat ∧ z.toNat < N := ⟨iI_in h.1 h.2 hN, iI_clamp h.1 (by omega), by omega⟩
theorem V_iald {g : Gl} {mi : MI} {R : Room} {QF : QFT} {pc : Nat} {ls : List (Option MV)} {st : List MV} {k n : Nat} {σ : St} {a N : Nat} {i : Int} (hd : decode mi.1 pc = .ok (.iaload, 1)) (ha : gl σ a = some (.inr (0, N))) (hi : 0 ≤ i ∧ i < N)
    (kk : V g mi R QF (pc + 1) ls (vi (gG σ a i.toNat) :: st) k n σ) : V g mi R QF pc ls (vi i :: vq (some a) :: st) k n σ := by
  intro p e s m args below meth c H locs la C hH hS hl
  obtain ⟨-, -, hN, hc⟩ := hH.2.2 a _ ha
  obtain ⟨z1, z2, z3⟩ := arr_in hi hN
  refine W.iald (v := .int (iI (gG σ a i.toNat))) C.1 C.2.1 hc (((ks_K C.2.2.2.2.2.2.2.2).2 0 _ rfl).1 _ _) (fun q => by cases q) (by rw [arrV_size]; exact z1) (by rw [z2, arrV_read _ _ z3]; rfl) rfl rfl hd (kk p e s m args below meth c H locs la C hH hS hl)
theorem V_bald {g : Gl} {mi : MI} {R : Room} {QF : QFT} {pc : Nat} {ls : List (Option MV)} {st : List MV} {k n : Nat} {σ : St} {a N : Nat} {i : Int} (hd : decode mi.1 pc = .ok (.baload, 1)) (ha : gl σ a = some (.inr (2, N))) (hi : 0 ≤ i ∧ i < N)
    (kk : V g mi R QF (pc + 1) ls (vi (gG σ a i.toNat) :: st) k n σ) : V g mi R QF pc ls (vi i :: vq (some a) :: st) k n σ := by
  intro p e s m args below meth c H locs la C hH hS hl
  obtain ⟨-, -, hN, hc⟩ := hH.2.2 a _ ha
  obtain ⟨z1, z2, z3⟩ := arr_in hi hN
  refine W.bald (v := .int (iI (gG σ a i.toNat))) C.1 C.2.1 hc (((ks_K C.2.2.2.2.2.2.2.2).2 2 _ rfl).1 _ _) (fun q => by cases q) (by rw [arrV_size]; exact z1) (by rw [z2, arrV_read _ _ z3]; rfl) rfl rfl hd (kk p e s m args below meth c H locs la C hH hS hl)
theorem V_lald {g : Gl} {mi : MI} {R : Room} {QF : QFT} {pc : Nat} {ls : List (Option MV)} {st : List MV} {k n : Nat} {σ : St} {a N : Nat} {i : Int} (hd : decode mi.1 pc = .ok (.laload, 1)) (ha : gl σ a = some (.inr (1, N))) (hi : 0 ≤ i ∧ i < N)
    (kk : V g mi R QF (pc + 1) ls (vl (gL σ a i.toNat) :: st) k n σ) : V g mi R QF pc ls (vi i :: vq (some a) :: st) k n σ := by
  intro p e s m args below meth c H locs la C hH hS hl
  obtain ⟨-, -, hN, hc⟩ := hH.2.2 a _ ha
  obtain ⟨z1, z2, z3⟩ := arr_in hi hN
  refine W.lald (v := .long (gL σ a i.toNat)) C.1 C.2.1 hc (((ks_K C.2.2.2.2.2.2.2.2).2 1 _ rfl).1 _ _) (fun q => by cases q) (by rw [arrV_size]; exact z1) (by rw [z2, arrV_read _ _ z3]; rfl) rfl rfl hd (kk p e s m args below meth c H locs la C hH hS hl)
theorem ty_ref {t : Nat} (h3 : 3 ≤ t) (h8 : t < 8) (g : Gl) : ∃ ty, (tysG g)[t]? = some (gcA g t, ty) ∧ ty.isReference = true := by
  match t, h3, h8 with
  | 3, _, _ => exact ⟨_, rfl, rfl⟩
  | 4, _, _ => exact ⟨_, rfl, rfl⟩
  | 5, _, _ => exact ⟨_, rfl, rfl⟩
  | 6, _, _ => exact ⟨_, rfl, rfl⟩
  | 7, _, _ => exact ⟨_, rfl, rfl⟩
theorem evr_ref {t : Nat} (h3 : 3 ≤ t) (G : Nat → Int) (L : Nat → Int64) (P : Nat → Option Nat) (j : Nat) : evr t G L P j = vq (P j) := by
  unfold evr
  rw [if_neg (by omega), if_neg (by omega)]
theorem V_aald {g : Gl} {mi : MI} {R : Room} {QF : QFT} {pc : Nat} {ls : List (Option MV)} {st : List MV} {k n : Nat} {σ : St} {a t N : Nat} {i : Int} {b : Option Nat} (hd : decode mi.1 pc = .ok (.aaload, 1)) (ha : gl σ a = some (.inr (t, N))) (h3 : 3 ≤ t) (hi : 0 ≤ i ∧ i < N) (hb : gP σ a i.toNat = b)
    (kk : V g mi R QF (pc + 1) ls (vq b :: st) k n σ) : V g mi R QF pc ls (vi i :: vq (some a) :: st) k n σ := by
  intro p e s m args below meth c H locs la C hH hS hl
  subst hb
  obtain ⟨-, h8, hN, hc⟩ := hH.2.2 a _ ha
  obtain ⟨z1, z2, z3⟩ := arr_in hi hN
  obtain ⟨ty, t1, t2⟩ := ty_ref h3 h8 g
  refine W.aald (v := rv g (vq (gP σ a i.toNat))) C.1 C.2.1 hc (((ks_K C.2.2.2.2.2.2.2.2).2 t _ t1).1 _ _) t2 (fun q => by cases q) (by rw [arrV_size]; exact z1) (by rw [z2, arrV_read _ _ z3, evr_ref h3]) rfl rfl hd (kk p e s m args below meth c H locs la C hH hS hl)
theorem V_alen {g : Gl} {mi : MI} {R : Room} {QF : QFT} {pc : Nat} {ls : List (Option MV)} {st : List MV} {k n : Nat} {σ : St} {a t N : Nat} (hd : decode mi.1 pc = .ok (.arraylength, 1)) (ha : gl σ a = some (.inr (t, N)))
    (kk : V g mi R QF (pc + 1) ls (vi (N : Int) :: st) k n σ) : V g mi R QF pc ls (vq (some a) :: st) k n σ := by
  intro p e s m args below meth c H locs la C hH hS hl
  obtain ⟨-, h8, hN, hc⟩ := hH.2.2 a _ ha
  obtain ⟨ty, ht⟩ : ∃ ty, (tysG g)[t]? = some (gcA g t, ty) := by
    match t, h8 with
    | 0, _ => exact ⟨_, rfl⟩
    | 1, _ => exact ⟨_, rfl⟩
    | 2, _ => exact ⟨_, rfl⟩
    | 3, _ => exact ⟨_, rfl⟩
    | 4, _ => exact ⟨_, rfl⟩
    | 5, _ => exact ⟨_, rfl⟩
    | 6, _ => exact ⟨_, rfl⟩
    | 7, _ => exact ⟨_, rfl⟩
  exact W.alen C.1 C.2.1 hc (((ks_K C.2.2.2.2.2.2.2.2).2 t _ ht).1 _ _) (by rw [arrV_size]; rfl) rfl rfl hd (kk p e s m args below meth c H locs la C hH hS hl)
/-- stores into arrays -/
theorem V_iast {g : Gl} {mi : MI} {R : Room} {QF : QFT} {pc : Nat} {ls : List (Option MV)} {st : List MV} {k n : Nat} {σ : St} {a N : Nat} {i x : Int} (hd : decode mi.1 pc = .ok (.iastore, 1)) (ha : gl σ a = some (.inr (0, N))) (hi : 0 ≤ i ∧ i < N)
    (kk : V g mi R QF (pc + 1) ls st k n (setG σ a i.toNat x)) : V g mi R QF pc ls (vi x :: vi i :: vq (some a) :: st) k n σ := by
  intro p e s m args below meth c H locs la C hH hS hl
  obtain ⟨ha8, -, hN, hc⟩ := hH.2.2 a _ ha
  obtain ⟨z1, z2, z3⟩ := arr_in hi hN
  have hg := ks_ok C.2.2.2.2.2.2.2.2
  refine W.iast C.1 C.2.1 hc (((ks_K C.2.2.2.2.2.2.2.2).2 0 _ rfl).1 _ _) (fun q => by cases q) (by rw [arrV_size]; exact z1) rfl rfl hd (fun H1 e1 z oq => ?_)
  refine kk p e s m args below meth c H1 _ la C (hH.setA hg ha z oq ⟨by decide, hN, ?_⟩) (vaS_put hg ha8.1 hS z oq) hl
  rw [e1, z2, arrV_store]
  congr 2
  funext q
  by_cases hq : q = i.toNat
  · subst hq
    simp [updV, up1, evr, rv]
  · simp [updV, up1, evr, rv, hq]
theorem V_bast {g : Gl} {mi : MI} {R : Room} {QF : QFT} {pc : Nat} {ls : List (Option MV)} {st : List MV} {k n : Nat} {σ : St} {a N : Nat} {i x : Int} (hd : decode mi.1 pc = .ok (.bastore, 1)) (ha : gl σ a = some (.inr (2, N))) (hi : 0 ≤ i ∧ i < N) (hx : narrow .byte (.int (iI x)) = .int (iI x))
    (kk : V g mi R QF (pc + 1) ls st k n (setG σ a i.toNat x)) : V g mi R QF pc ls (vi x :: vi i :: vq (some a) :: st) k n σ := by
  intro p e s m args below meth c H locs la C hH hS hl
  obtain ⟨ha8, -, hN, hc⟩ := hH.2.2 a _ ha
  obtain ⟨z1, z2, z3⟩ := arr_in hi hN
  have hg := ks_ok C.2.2.2.2.2.2.2.2
  refine W.bast C.1 C.2.1 hc (((ks_K C.2.2.2.2.2.2.2.2).2 2 _ rfl).1 _ _) (fun q => by cases q) (by rw [arrV_size]; exact z1) rfl rfl hd (fun H1 e1 z oq => ?_)
  refine kk p e s m args below meth c H1 _ la C (hH.setA hg ha z oq ⟨by decide, hN, ?_⟩) (vaS_put hg ha8.1 hS z oq) hl
  rw [e1, z2, hx, arrV_store]
  congr 2
  funext q
  by_cases hq : q = i.toNat
  · subst hq
    simp [updV, up1, evr, rv]
  · simp [updV, up1, evr, rv, hq]
theorem V_last {g : Gl} {mi : MI} {R : Room} {QF : QFT} {pc : Nat} {ls : List (Option MV)} {st : List MV} {k n : Nat} {σ : St} {a N : Nat} {i : Int} {x : Int64} (hd : decode mi.1 pc = .ok (.lastore, 1)) (ha : gl σ a = some (.inr (1, N))) (hi : 0 ≤ i ∧ i < N)
    (kk : V g mi R QF (pc + 1) ls st k n (setL σ a (up1 (gL σ a) i.toNat x))) : V g mi R QF pc ls (vl x :: vi i :: vq (some a) :: st) k n σ := by
  intro p e s m args below meth c H locs la C hH hS hl
  obtain ⟨ha8, -, hN, hc⟩ := hH.2.2 a _ ha
  obtain ⟨z1, z2, z3⟩ := arr_in hi hN
  have hg := ks_ok C.2.2.2.2.2.2.2.2
  refine W.last C.1 C.2.1 hc (((ks_K C.2.2.2.2.2.2.2.2).2 1 _ rfl).1 _ _) (fun q => by cases q) (by rw [arrV_size]; exact z1) rfl rfl hd (fun H1 e1 z oq => ?_)
  refine kk p e s m args below meth c H1 _ la C (hH.setL hg ha z oq ⟨by decide, hN, ?_⟩) (vaS_put hg ha8.1 hS z oq) hl
  rw [e1, z2, arrV_store]
  congr 2
  funext q
  by_cases hq : q = i.toNat
  · subst hq
    simp [updV, up1, evr, rv]
  · simp [updV, up1, evr, rv, hq]
