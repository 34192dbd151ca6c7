/-! THE PLAIN MACHINE: values over whole numbers, a heap whose places are numbered from 8 on as they come; a judgement V over it, out of the kit's W -/
abbrev MV : Type := Int ⊕ (Int64 ⊕ Option Nat)
abbrev vi (z : Int) : MV := .inl z
abbrev vl (x : Int64) : MV := .inr (.inl x)
abbrev vq (r : Option Nat) : MV := .inr (.inr r)
abbrev Sh : Type := Nat ⊕ (Nat × Nat)
/-- shapes, next place, whole numbers, longs, references -/
abbrev St : Type := (Nat → Option Sh) × Nat × (Nat → Nat → Int) × (Nat → Nat → Int64) × (Nat → Nat → Option Nat)
def gl (σ : St) : Nat → Option Sh := σ.1
def gn (σ : St) : Nat := σ.2.1
def gG (σ : St) : Nat → Nat → Int := σ.2.2.1
def gL (σ : St) : Nat → Nat → Int64 := σ.2.2.2.1
def gP (σ : St) : Nat → Nat → Option Nat := σ.2.2.2.2
def up1 {α : Type} (f : Nat → α) (k : Nat) (v : α) : Nat → α := fun j => if j = k then v else f j
def setA (σ : St) (a : Nat) (f : Nat → Int) : St := (gl σ, gn σ, up1 (gG σ) a f, gL σ, gP σ)
def setL (σ : St) (a : Nat) (f : Nat → Int64) : St := (gl σ, gn σ, gG σ, up1 (gL σ) a f, gP σ)
def setP (σ : St) (a : Nat) (f : Nat → Option Nat) : St := (gl σ, gn σ, gG σ, gL σ, up1 (gP σ) a f)
/-- a new place of a shape, all blank -/
def addC (σ : St) (sh : Sh) : St := (up1 (gl σ) (gn σ) (some sh), gn σ + 1, up1 (gG σ) (gn σ) (fun _ => 0), up1 (gL σ) (gn σ) (fun _ => 0), up1 (gP σ) (gn σ) (fun _ => none))
def setG (σ : St) (a k : Nat) (v : Int) : St := setA σ a (up1 (gG σ a) k v)
/-- the launch, the classes' numbers, the arrays' classes, the places, the first new place, the script's length and ints -/
abbrev Gl : Type := Launch × va_G × (Nat → ClassId) × (Nat → Nat) × Nat × Nat × (Nat → Int32)
def gD (g : Gl) : va_G := g.2.1
def gcA (g : Gl) : Nat → ClassId := g.2.2.1
def gad (g : Gl) : Nat → Nat := g.2.2.2.1
def gbs (g : Gl) : Nat := g.2.2.2.2.1
def gL0 (g : Gl) : Nat := g.2.2.2.2.2.1
def gxs (g : Gl) : Nat → Int32 := g.2.2.2.2.2.2
def rv (g : Gl) : MV → Value
  | .inl z => .int (iI z)
  | .inr (.inl x) => .long x
  | .inr (.inr r) => va_rf (r.map (gad g))
def fkT : List (List Nat) := [[0], [2, 2], [2, 2, 2, 2, 0, 0], [0, 0, 0], [2, 2, 2, 2, 2, 0], [2, 2, 0], [0, 0, 0, 0], [2, 2, 2, 2, 0, 0, 0], [2, 2, 2, 2, 0, 0, 0], [0, 2], [2, 2, 0, 2, 2, 0, 2, 2, 2, 2], [2, 2, 2, 0, 0, 0, 0, 2, 0, 0, 0, 2, 0, 2, 2, 0, 0, 0, 2, 2, 0, 0, 0, 0, 2, 2, 2, 2, 2, 2]]
def fk (ci k : Nat) : Nat := (fkT.getD ci []).getD k 0
def fvr (ci k : Nat) (G : Nat → Int) (P : Nat → Option Nat) : MV := if fk ci k = 0 then vi (G k) else vq (P k)
def evr (t : Nat) (G : Nat → Int) (L : Nat → Int64) (P : Nat → Option Nat) (j : Nat) : MV := if t = 1 then vl (L j) else if t < 3 then vi (G j) else vq (P j)
/-- the arrays' types: int, long, byte, Stave, Hoop, Board, Thing, int[] -/
def tyL : List FieldType := [.int, .long, .byte, .object RX6, .object RX3, .object RX0, .object RX9, .array .int]
def tysG (g : Gl) : List (ClassId × FieldType) := [(gcA g 0, .int), (gcA g 1, .long), (gcA g 2, .byte), (gcA g 3, .object RX6), (gcA g 4, .object RX3), (gcA g 5, .object RX0), (gcA g 6, .object RX9), (gcA g 7, .array .int)]
def cellR (g : Gl) (G : Nat → Int) (L : Nat → Int64) (P : Nat → Option Nat) (H : Heap) (a : Nat) : Sh → Prop
  | .inl ci => ∃ r : vw_C, vwCl[ci]? = some r ∧ t_OB (gad g a) ((gD g).1 ci) r.2.2 ((gD g).2 ci) H (fun k => rv g (fvr ci k G P))
  | .inr (t, n) => t < 8 ∧ n < 2147483648 ∧ H[gad g a]? = some (arrV (gcA g t) n (fun j => rv g (evr t G L P j)))
def HR (g : Gl) (σ : St) (H : Heap) : Prop := H.size = gad g (gn σ) ∧ 8 ≤ gn σ ∧ ∀ (a : Nat) (sh : Sh), gl σ a = some sh → (8 ≤ a ∧ a < gn σ) ∧ cellR g (gG σ a) (gL σ a) (gP σ a) H a sh
/-- the arrays that nobody writes: LEAST_RULE, MOST_RULE, STAVE_UNDER, HOOP_UNDER, the script -/
def roN (g : Gl) (a : Nat) : Nat := match a with | 0 => 4 | 1 => 4 | 2 => 5 | 3 => 4 | _ => gL0 g
def roL (l : List Int) : Nat → Int := fun j => l.getD j 0
def roC (g : Gl) (a : Nat) : Nat → Int := match a with
  | 0 => roL [10, 0, 0, -20] | 1 => roL [500, 50, 20, 20] | 2 => roL [-1, 0, 0, 2, 1] | 3 => roL [-1, 0, 0, 1] | _ => fun j => (gxs g j).toInt
def roF (a : Nat) : String := match a with | 0 => "LEAST_RULE" | 1 => "MOST_RULE" | 2 => "STAVE_UNDER" | _ => "HOOP_UNDER"
def gTbl : List Cond := lw_tbl.filter goodWord
def mnTbl : List (String × Nat × MethodName) := [(RX11, 11, yX7_init), (RX11, 33, yX8_init), (RX11, 44, yX5_init), (RX11, 51, yX4_init), (RX11, 58, yX1_init), (RX11, 65, yX2_init), (RX6, 22, yX11_isIn), (RX6, 1, yX9_init), (RX3, 21, yX11_isIn), (RX3, 3, yX9_init), (RX0, 13, yX11_isIn), (RX0, 1, yX9_init), (RX5, 39, yX11_isIn), (RX4, 101, yX11_holds), (RX4, 109, yX11_without), (RX4, 35, yX11_spellRow), (RX2, 62, yX11_holds), (RX2, 51, yX11_rootOf), (RX2, 75, yX11_spellRow), (RX8, 56, yX11_isIn), (RX8, 89, yX11_canRule), (RX10, 3, yX9_init)]
/-- who can be cast to what; who can't -/
def caTbl : List (String × String) := [(RX6, RX9), (RX3, RX9), (RX0, RX9), (RX10, RX9)]
def ncTbl : List (String × String) := [(RX3, RX6), (RX0, RX6), (RX10, RX6), (RX6, RX3), (RX0, RX3), (RX10, RX3), (RX6, RX0), (RX3, RX0), (RX10, RX0), (RX6, RX10), (RX3, RX10), (RX0, RX10)]
def aoTbl : List String := [RX6, RX3, RX0, RX9]
def GOK (g : Gl) : Prop := (∀ a, 8 ≤ a → gad g a = gbs g + (a - 8)) ∧ ∀ a, a < 8 → gad g a < gbs g
/-- what holds of the tables and of the arrays that nobody writes, in every state of the run -/
def KS (g : Gl) (U : State) : Prop :=
  GOK g ∧ gL0 g ≤ 3072 ∧ gbs g ≤ U.heap.size ∧ va_K (gD g) vwCl (tysG g) U ∧ (∀ a, a < 4 → va_Z RX11 (roF a) "[I" (.ref (gad g a)) (fun q => gbs g ≤ q) U U.heap) ∧
  (∀ a, a < 5 → va_T .int (gad g a) (roN g a) (fun j => .int (iI (roC g a j))) (fun q => gbs g ≤ q) U U.heap) ∧
  (∀ q ∈ mnTbl, va_Nw (.methodLinkNest q.1 q.2.1 q.2.2 RX11) U) ∧ (∀ q ∈ caTbl, va_Nw (.castable q.1 q.2) U) ∧ (∀ q ∈ ncTbl, va_Nc q.1 q.2 U) ∧ (∀ q ∈ aoTbl, va_AO q U) ∧ va_Nw (.arrayOver (.array .int)) U ∧ va_Nw (.declares ⟨RX9, "toldAs", "()I"⟩) U
def RelU (g : Gl) (σ : St) (U : State) : Prop := KS g U ∧ HR g σ U.heap
/-- a method: its code, its name, its locals, its answer's type -/
abbrev MI : Type := ByteArray × MethodName × Nat × Option FieldType
def Cx (g : Gl) (mi : MI) (p : Program) (s : State) (m : MethodId) (args : Array Value) (meth : Method) (c : Code) : Prop :=
  p.tables.exec = Jvm.exec ∧ c.code = mi.1 ∧ c.maxLocals = mi.2.2.1 ∧ meth.sig.returnType = mi.2.2.2 ∧ s.vm.findClass mi.2.1.cls = some m.cls ∧ meth.name = mi.2.1.name ∧ (∀ w ∈ gTbl, w.before args s = true) ∧ meth.locks = false ∧ KS g s
/-- the locals by their places -/
def lvl (g : Gl) : Nat → List (Option MV) → List (Nat × Value)
  | _, [] => []
  | i, none :: t => lvl g (i + 1) t
  | i, some v :: t => (i, rv g v) :: lvl g (i + 1) t
abbrev QFT : Type := State → Array Value → List Frame → State → Prop
def V (g : Gl) (mi : MI) (R : Room) (QF : QFT) (pc : Nat) (ls : List (Option MV)) (st : List MV) (k n : Nat) (σ : St) : Prop :=
  ∀ (p : Program) (e : Env) (s : State) (m : MethodId) (args : Array Value) (below : List Frame) (meth : Method) (c : Code) (H : Heap) (locs : List Loc) (la : Array Slot),
    Cx g mi p s m args meth c → HR g σ H → va_S (fun q => gbs g ≤ q) s.heap H locs → lv_has la mi.2.2.1 (lvl g 0 ls) →
    W p g.1 e R s m args below meth c H locs k n (QF s args below) (F0 m pc la (st.map (rv g)))
def QcP (g : Gl) (post : Option MV → St → Prop) : Array Value → State → Outcome → State → Prop := fun _ st o t =>
  (∃ (r : Option MV) (σ' : St), o = .returned (r.map (rv g)) ∧ post r σ' ∧ HR g σ' t.heap) ∧ va_F (fun q => gbs g ≤ q) st t
def QM (g : Gl) (mc ms : Nat) (post : Option MV → St → Prop) : QFT := fun s args below => MQ below (QcP g post) args s mc ms (fun q => gbs g ≤ q)
def rmD (d mc ms : Nat) : Room := { frames := d, cells := mc, slots := ms, locals := 41 * d }
/-- a method's contract: from this state, with these values, within this depth and this many new cells, it returns, and post holds -/
def Ct (g : Gl) (mi : MI) (d mc ms : Nat) (As : List MV) (σ : St) (post : Option MV → St → Prop) : Prop :=
  Met g.1 mi.2.1 (Cond.code mi.2.1 mi.1 mi.2.2.1 mi.2.2.2 :: gTbl) (rmD d mc ms) (va_Pc (As.map (rv g)) (RelU g σ)) (QcP g post) mc ms (fun q => gbs g ≤ q)
/-- the locals with which a method begins -/
def entL : List MV → List (Option MV)
  | [] => []
  | .inr (.inl x) :: t => some (vl x) :: none :: entL t
  | v :: t => some v :: entL t
def padL (n : Nat) (l : List (Option MV)) : List (Option MV) := l ++ List.replicate (n - l.length) none
theorem rv_cat1 (g : Gl) (z : Int) : (rv g (vi z)).category = 1 := rfl
theorem rv_cat2 (g : Gl) (x : Int64) : (rv g (vl x)).category = 2 := rfl
theorem rv_catq (g : Gl) (r : Option Nat) : (rv g (vq r)).category = 1 := by cases r <;> rfl
theorem lvl_ent (g : Gl) : ∀ (As : List MV) (i : Nat), lvl g i (entL As) = lv_args i (As.map (rv g))
  | [], _ => rfl
  | .inl z :: t, i => by
    show (i, rv g (vi z)) :: lvl g (i + 1) (entL t) = _
    rw [lvl_ent g t (i + 1)]; rfl
  | .inr (.inl x) :: t, i => by
    show (i, rv g (vl x)) :: lvl g (i + 1 + 1) (entL t) = _
    rw [lvl_ent g t (i + 1 + 1)]; rfl
  | .inr (.inr r) :: t, i => by
    show (i, rv g (vq r)) :: lvl g (i + 1) (entL t) = _
    rw [lvl_ent g t (i + 1)]
    show _ = (i, rv g (vq r)) :: lv_args (if (rv g (vq r)).category = 2 then i + 2 else i + 1) (t.map (rv g))
    rw [rv_catq]; rfl
theorem lvl_none (g : Gl) : ∀ (n i : Nat), lvl g i (List.replicate n none) = []
  | 0, _ => rfl
  | n + 1, i => lvl_none g n (i + 1)
theorem lvl_app_none (g : Gl) (n : Nat) : ∀ (l : List (Option MV)) (i : Nat), lvl g i (l ++ List.replicate n none) = lvl g i l
  | [], i => lvl_none g n i
  | none :: t, i => lvl_app_none g n t (i + 1)
  | some v :: t, i => by
    exact congrArg (fun q => (i, rv g v) :: q) (lvl_app_none g n t (i + 1))
theorem entL_len (g : Gl) : ∀ (As : List MV), (lg_sl (As.map (rv g))).length = (entL As).length
  | [] => rfl
  | .inl z :: t => by
    show (lg_sl (rv g (vi z) :: t.map (rv g))).length = (entL t).length + 1
    rw [← entL_len g t]; rfl
  | .inr (.inl x) :: t => by
    show (lg_sl (rv g (vl x) :: t.map (rv g))).length = (entL t).length + 1 + 1
    rw [← entL_len g t]; rfl
  | .inr (.inr r) :: t => by
    show (lg_sl (rv g (vq r) :: t.map (rv g))).length = (entL t).length + 1
    rw [← entL_len g t]
    show ((if (rv g (vq r)).category = 2 then [Slot.val (rv g (vq r)), .second] else [Slot.val (rv g (vq r))]) ++ lg_sl (t.map (rv g))).length = _
    rw [rv_catq]; simp
