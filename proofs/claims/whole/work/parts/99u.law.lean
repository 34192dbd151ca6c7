/-! the law: what its calls need -/
abbrev mL_law : MI := (cL_law, yL_law, 4, (some .boolean))
theorem V_icmpS {g : Gl} {mi : MI} {R : Room} {QF : QFT} {pc : Nat} {ls : List (Option MV)} {st : List MV} {k n : Nat} {σ : St} {x : Int} {off : Int} {tgt : Nat} (hd : decode mi.1 pc = .ok (.if_icmp .eq off, 3)) (ht : (pc : Int) + off = (tgt : Int)) (kt : V g mi R QF tgt ls st k n σ) : V g mi R QF pc ls (vi x :: vi x :: st) k n σ := by
  intro p e s m args below meth c H locs la C hH hS hl
  exact lv_icmp_eq C.1 C.2.1 hd ht (fun _ => kt p e s m args below meth c H locs la C hH hS hl) (fun q => absurd rfl q)
theorem ro_b (g : Gl) (j : Nat) : inR (roC g 4 j) := by
  have h1 := Int32.le_toInt (gxs g j)
  have h2 := Int32.toInt_lt (gxs g j)
  rw [show roC g 4 j = (gxs g j).toInt from rfl]
  constructor <;> omega
theorem rP.c {v : Int} {σ : St} {A : Ab} (h : CL σ A) {r : Option MV} {τ : St} (p : rP (vi v) σ r τ) : PC v A σ r τ := by
  obtain ⟨rfl, rfl⟩ := p
  exact ⟨rfl, h, FM.rf _⟩
theorem PX.c {v : Int} {σ : St} {A : Ab} (h : CL σ A) {r : Option MV} {τ : St} (p : PX v σ r τ) : PC v A σ r τ := ⟨p.1, h.xw p.2.w, p.2.w.fm⟩
/-- how the law goes on behind a call -/
def LC (g : Gl) (QF : QFT) (i : Int) (N k n : Nat) : Prop := ∀ (A' : Ab) (τ : St) (k' n' : Nat), CL τ A' → MR τ A' → AI A' (N + 28) → k' ≤ k + 30 → n' ≤ n + 110 → V g mL_law room_1 QF 1381 [some (vq (some 4)), some (vq (some 8)), some (vq (some 77)), some (vi i)] [] k' n' τ
