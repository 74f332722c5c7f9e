/-! ===== the abstract machine: a memory of numbered cells, a judgement at a place of a method, contracts ===== -/
/-- next cell, the ints, the longs, the references (0: null, n + 1: the cell n) -/
abbrev Mm : Type := Nat × (Nat → Nat → Int32) × (Nat → Nat → Int64) × (Nat → Nat → Nat)
def mN (M : Mm) : Nat := M.1
def mI (M : Mm) : Nat → Nat → Int32 := M.2.1
def mL (M : Mm) : Nat → Nat → Int64 := M.2.2.1
def mP (M : Mm) : Nat → Nat → Nat := M.2.2.2
def u2 {α : Type} (f : Nat → Nat → α) (a k : Nat) (v : α) : Nat → Nat → α := fun b j => if b = a ∧ j = k then v else f b j
def sI (M : Mm) (a k : Nat) (v : Int32) : Mm := (mN M, u2 (mI M) a k v, mL M, mP M)
def sL (M : Mm) (a k : Nat) (v : Int64) : Mm := (mN M, mI M, u2 (mL M) a k v, mP M)
def sP (M : Mm) (a k : Nat) (v : Nat) : Mm := (mN M, mI M, mL M, u2 (mP M) a k v)
/-- a new cell, all of it nought -/
def aN (M : Mm) : Mm := (mN M + 1, (fun b j => if b = mN M then 0 else mI M b j), (fun b j => if b = mN M then 0 else mL M b j), (fun b j => if b = mN M then 0 else mP M b j))
theorem u2_s {α : Type} (f : Nat → Nat → α) (a k : Nat) (v : α) : u2 f a k v a k = v := if_pos ⟨rfl, rfl⟩
theorem u2_n {α : Type} {f : Nat → Nat → α} {a k : Nat} {v : α} {b j : Nat} (h : ¬ (b = a ∧ j = k)) : u2 f a k v b j = f b j := if_neg h
/-! what each cell is: (1, class, fields), (2, 0, length) ints, (3, 1, length) longs, (4, array class, length) references -/
def kAp (r : Nat) : Nat × Nat × Nat :=
  if r = 0 then (1, 0, 11) else if r = 1 then (2, 0, 3) else if r = 2 ∨ r = 8 then (1, 3, 2) else if r = 3 ∨ r = 9 then (4, 2, 4)
  else if r < 14 then (2, 0, 20) else if r = 14 ∨ r = 16 then (1, 2, 2) else (3, 1, 4)
def kSt (r : Nat) : Nat × Nat × Nat :=
  if r = 0 then (1, 5, 9) else if r = 1 then (4, 2, 5) else if r < 7 then (2, 0, 3) else if r = 7 then (4, 3, 6) else if r = 8 then (4, 4, 10)
  else if r = 9 then (1, 4, 3) else if r < 28 then kAp (r - 10) else if r < 34 then (1, 4, 3) else kAp ((r - 34) % 18)
def KX (a : Nat) : Nat × Nat × Nat :=
  if a = 0 then (1, 7, 3) else if a < 215 then kSt (a - 1) else if a = 215 then (1, 6, 3) else if a = 216 then (4, 5, 4) else if a < 1073 then kSt ((a - 217) % 214)
  else if a = 1073 then (1, 1, 11) else if a = 1074 then (2, 0, 150) else if a = 1075 then (4, 6, 21) else if a = 1076 then (4, 2, 21) else if a < 1098 then (2, 0, 3) else (0, 0, 0)
/-- of a field: 0 an int, 1 a long, 2 a reference -/
def ft (c k : Nat) : Nat :=
  if c = 0 then (if k < 5 then 2 else 0) else if c = 1 then (if k < 3 then 2 else 0) else if c = 2 then (if k = 0 then 2 else 0) else if c = 3 then (if k = 0 then 2 else 0)
  else if c = 4 then 0 else if c = 5 then (if k < 5 then 2 else 0) else if c = 6 then (if k = 0 then 2 else 0) else if c = 7 then 2
  else (if k < 3 ∨ k = 6 ∨ k = 10 ∨ k = 11 then 2 else if k = 5 ∨ k = 12 then 1 else 0)
/-- where the references of a cell that is made point (n + 1: to the cell n; 0: not said) -/
def PV (a k : Nat) : Nat :=
  match KX a with
  | (1, 0, _) => if k = 0 then a + 2 else if k = 1 then a + 3 else if k = 2 then a + 9 else if k = 3 then a + 15 else if k = 4 then a + 17 else 0
  | (1, 1, _) => if k = 0 then a + 2 else if k = 1 then a + 3 else if k = 2 then a + 4 else 0
  | (1, 2, _) => if k = 0 then a + 2 else 0
  | (1, 3, _) => if k = 0 then a + 2 else 0
  | (1, 5, _) => if k = 0 then a + 2 else if k = 1 then a + 8 else if k = 2 then a + 9 else if k = 3 then a + 10 else if k = 4 then a + 11 else 0
  | (1, 6, _) => if k = 0 then a + 2 else 0
  | (1, 7, _) => if k = 0 then a + 2 else if k = 1 then a + 216 else if k = 2 then a + 1074 else 0
  | (1, 8, _) => if k = 0 then a + 2 else if k = 1 then a + 3 else if k = 2 then a + 4 else if k = 6 then a + 5 else if k = 10 then a + 6 else if k = 11 then a + 7 else 0
  | (4, 2, n) => if k < n then a + 2 + k else 0
  | (4, 3, n) => if k < n then a + 22 + k else 0
  | (4, 4, n) => if k < n then a + 27 + 18 * k else 0
  | (4, 5, n) => if k < n then a + 2 + 214 * k else 0
  | _ => 0
def PInv (M : Mm) : Prop := ∀ a k, PV a k ≠ 0 → mP M a k = PV a k
/-! the ground: where the cells lie (base), the classes, the arrays' classes, where the static cells lie -/
abbrev GT : Type := Nat × va_G × (Nat → ClassId) × (Nat → Nat) × Nat × (Nat → Int32)
def gB (G : GT) : Nat := G.1
def gD (G : GT) : va_G := G.2.1
def gA (G : GT) : Nat → ClassId := G.2.2.1
def gS (G : GT) : Nat → Nat := G.2.2.2.1
/-- the script: how long, what it holds -/
def gXL (G : GT) : Nat := G.2.2.2.2.1
def gXV (G : GT) : Nat → Int32 := G.2.2.2.2.2
def rh (G : GT) (a : Nat) : Nat := if a < 1000000 then gB G + a else gS G (a - 1000000)
def tv (G : GT) (v : Value) : Value := match v with
  | .ref a => .ref (rh G a)
  | w => w
/-! what lies below the base: statics, static cells (by numbers from 1000000 on) -/
def nestW : List (String × Nat × MethodName) := [("TradeLogs$State", 28, ⟨"TradeLogs$Mentor", "<init>", "()V"⟩), ("TradeLogs$State", 33, ⟨"TradeLogs$Apprentice", "<init>", "()V"⟩), ("TradeLogs$Apprentice", 17, ⟨"TradeLogs$EntryQueue", "<init>", "()V"⟩), ("TradeLogs$Apprentice", 27, ⟨"TradeLogs$DaySet", "<init>", "()V"⟩), ("TradeLogs", 25, ⟨"TradeLogs$CommandText", "<init>", "()V"⟩)]
def strW : List (String × Nat × String) := [("TradeLogs", 231, "there is none of this number"), ("TradeLogs", 238, "an argument is out of range"), ("TradeLogs", 243, "this cannot be done now")]
def SZt : List (String × String × String × Value) := []
def inSO (k : Nat) (C : String) : Prop := k = 0 ∧ C = "" ∧ False
def inSF (k : Nat) (o n d : String) (v : Value) : Prop := k = 0 ∧ o = "" ∧ n = "" ∧ d = "" ∧ v = .null ∧ False
def inST (G : GT) (k : Nat) (ty : FieldType) (n : Nat) (f : Nat → Value) : Prop := k = 100 ∧ ty = .int ∧ n = gXL G ∧ f = fun j => .int (gXV G j)
def fmZ (G : GT) (U : State) (H : Heap) : Prop := gB G = gB G ∧ U.heap = U.heap ∧ H.size = H.size
theorem fmZ.moved {G : GT} {u U : State} {H : Heap} (_hv : u.vm.Alike U.vm) (_h : fmZ G u H) : fmZ G U H := ⟨rfl, rfl, rfl⟩
theorem fmZ.kept {G : GT} {U : State} {H H1 : Heap} (_hq : ∀ a : Nat, a < H.size → ¬ gB G ≤ a → H1[a]? = H[a]?) (_h : fmZ G U H) : fmZ G U H1 := ⟨rfl, rfl, rfl⟩
/-- words of the tables that are no good words: what may be caught as what, what a throw declares -/
def cstW : List String := ["java/lang/IndexOutOfBoundsException", "java/lang/IllegalArgumentException", "java/lang/IllegalStateException"]
def dclW : List String := ["java/lang/RuntimeException", "java/lang/Exception", "java/lang/Throwable"]
def ncsW : List (String × String) := [("java/lang/IllegalArgumentException", "java/lang/IndexOutOfBoundsException"), ("java/lang/IllegalStateException", "java/lang/IndexOutOfBoundsException"), ("java/lang/IllegalStateException", "java/lang/IllegalArgumentException")]
def aovW : List String := ["TradeLogs$Mentor", "TradeLogs$Apprentice", "TradeLogs$State", "TradeLogs$Command"]
/-- int[][] and int[] -/
def mnZ (U : State) : Prop := ∃ (cA cy cc : ClassId) (kA kC : Class), U.vm.findClass "[[I" = some cA ∧ U.vm.classes[cA]? = some kA ∧ kA.kind = .array cy (.array .int) ∧ U.vm.findClass "[I" = some cy ∧ U.vm.classes[cy]? = some kC ∧ kC.kind = .array cc .int
theorem mnZ.moved {u U : State} (hv : u.vm.Alike U.vm) (h : mnZ u) : mnZ U := by
  obtain ⟨cA, cy, cc, kA, kC, h1, h2, h3, h4, h5, h6⟩ := h
  obtain ⟨k1, g1, e1⟩ := hv.2.2 _ _ h2
  obtain ⟨k2, g2, e2⟩ := hv.2.2 _ _ h5
  exact ⟨cA, cy, cc, k1, k2, by rw [hv.findClass]; exact h1, g1, by rw [e1]; exact h3, by rw [hv.findClass]; exact h4, g2, by rw [e2]; exact h6⟩
def nwZ (U : State) : Prop := (∀ X ∈ cstW, va_Nw (.castable X X) U) ∧ (∀ X ∈ dclW, va_Nw (.declares (Bundle.initS X)) U) ∧ (∀ q ∈ ncsW, va_Nc q.1 q.2 U) ∧ (∀ C ∈ aovW, va_AO C U) ∧ mnZ U
theorem nwZ.warm {u U : State} (hW : u.WarmedH U.vm) (h : nwZ u) : nwZ U := ⟨fun X hX => va_Nw.warmC hW (h.1 X hX), fun X hX => va_Nw.warmD hW (h.2.1 X hX), fun q hq => va_Nc.moved hW.alike (h.2.2.1 q hq), fun C hC => va_AO.moved hW.alike (h.2.2.2.1 C hC), mnZ.moved hW.alike h.2.2.2.2⟩
theorem nwZ.same {u U : State} (hv : u.vm = U.vm) (h : nwZ u) : nwZ U :=
  have ha : u.vm.Alike U.vm := by rw [hv]; exact Vm.Alike.refl _
  ⟨fun X hX => va_Nw.same rfl hv (h.1 X hX), fun X hX => va_Nw.same rfl hv (h.2.1 X hX), fun q hq => va_Nc.moved ha (h.2.2.1 q hq), fun C hC => va_AO.moved ha (h.2.2.2.1 C hC), mnZ.moved ha h.2.2.2.2⟩
def ZF (G : GT) (U : State) (H : Heap) : Prop :=
  (∀ q ∈ nestW, va_Nw (.methodLinkNest q.1 q.2.1 q.2.2 "TradeLogs") U) ∧
  (vx_Zq Bundle.tN "UNASSIGNED_STACK" Bundle.steD (fun q => gB G ≤ q) U H ∧ vx_Zq Bundle.tN "SUPPRESSED_SENTINEL" Bundle.listD (fun q => gB G ≤ q) U H ∧ fmZ G U H ∧ nwZ U) ∧
  (∀ q ∈ strW, ∃ a : Nat, vk_R q.1 q.2.1 q.2.2 a U) ∧
  (∀ q ∈ SZt, va_Z q.1 q.2.1 q.2.2.1 (tv G q.2.2.2) (fun q => gB G ≤ q) U H) ∧
  (∀ (k : Nat) (C : String), inSO k C → va_O C (gS G k) (fun q => gB G ≤ q) U H) ∧
  (∀ (k : Nat) (o n d : String) (v : Value), inSF k o n d v → va_OF o n d (tv G v) (gS G k) (fun q => gB G ≤ q) U H) ∧
  (∀ (k : Nat) (ty : FieldType) (n : Nat) (f : Nat → Value), inST G k ty n f → va_T ty (gS G k) n (fun j => tv G (f j)) (fun q => gB G ≤ q) U H)
def gZ (G : GT) : State → Heap → Prop := ZF G
theorem ZF.warm {G : GT} {u U : State} {H : Heap} (hW : u.WarmedH U.vm) (h : ZF G u H) : ZF G U H := by
  obtain ⟨h1, ⟨h2, h3, h4, h10⟩, h5, h6, h7, h8, h9⟩ := h
  have hv := hW.alike
  refine ⟨fun q hq => va_Nw.warmM hW (h1 q hq), ⟨vx_Zq.moved hv h2, vx_Zq.moved hv h3, fmZ.moved hv h4, h10.warm hW⟩, fun q hq => ?_, fun q hq => va_Z.moved hv (h6 q hq), fun k C hk => va_O.moved hv (h7 k C hk), fun k o n d v hk => va_OF.moved hv (h8 k o n d v hk), fun k ty n f hk => va_T.moved hv (h9 k ty n f hk)⟩
  obtain ⟨a, ha⟩ := h5 q hq
  exact ⟨a, vk_R.warm hW ha⟩
theorem ZF.same {G : GT} {u U : State} {H : Heap} (hv : u.vm = U.vm) (h : ZF G u H) : ZF G U H := by
  obtain ⟨h1, ⟨h2, h3, h4, h10⟩, h5, h6, h7, h8, h9⟩ := h
  have ha : u.vm.Alike U.vm := by rw [hv]; exact Vm.Alike.refl _
  refine ⟨fun q hq => va_Nw.same rfl hv (h1 q hq), ⟨vx_Zq.moved ha h2, vx_Zq.moved ha h3, fmZ.moved ha h4, h10.same hv⟩, fun q hq => ?_, fun q hq => va_Z.moved ha (h6 q hq), fun k C hk => va_O.moved ha (h7 k C hk), fun k o n d v hk => va_OF.moved ha (h8 k o n d v hk), fun k ty n f hk => va_T.moved ha (h9 k ty n f hk)⟩
  obtain ⟨a, hb⟩ := h5 q hq
  exact ⟨a, vk_R.same hv.symm hb⟩
theorem ZF.kept {G : GT} {U : State} {H H1 : Heap} (hq : ∀ q, q < gB G → H1[q]? = H[q]?) (h : ZF G U H) : ZF G U H1 := by
  obtain ⟨h1, ⟨h2, h3, h4, h10⟩, h5, h6, h7, h8, h9⟩ := h
  have hk : ∀ a : Nat, a < H.size → ¬ gB G ≤ a → H1[a]? = H[a]? := fun a _ h => hq a (by omega)
  exact ⟨h1, ⟨h2.kept hk, h3.kept hk, fmZ.kept hk h4, h10⟩, h5, fun q hq => (h6 q hq).kept hk, fun k C hc => (h7 k C hc).kept hk, fun k o n d v hc => (h8 k o n d v hc).kept hk, fun k ty n f hc => (h9 k ty n f hc).kept hk⟩
def pq (G : GT) (n : Nat) : Option Nat := match n with
  | 0 => none
  | k + 1 => some (rh G k)
def fv (G : GT) (M : Mm) (c a k : Nat) : Value := match ft c k with
  | 0 => .int (mI M a k)
  | 1 => .long (mL M a k)
  | _ => va_rf (pq G (mP M a k))
def cellE (G : GT) (M : Mm) (a : Nat) : va_E := match KX a with
  | (1, c, n) => .inr (c, (List.range n).map (fun k => fv G M c a k))
  | (2, _, n) => .inl (gA G 0, n, .inl (mI M a))
  | (3, _, n) => .inl (gA G 1, n, .inr (.inl (mL M a)))
  | (_, c, n) => .inl (gA G c, n, .inr (.inr (.inr (.inr (fun j => pq G (mP M a j))))))
def tysG (G : GT) : List (ClassId × FieldType) := [(gA G 0, .int), (gA G 1, .long), (gA G 2, .array .int), (gA G 3, .object RX6), (gA G 4, .object RX1), (gA G 5, .object RX7), (gA G 6, .object RX2)]
def RepH (z : Bool) (G : GT) (M : Mm) (H : Heap) : Prop := H.size = gB G + mN M ∧ (∀ a, a < mN M → (KX a).1 ≠ 0 → va_at (gD G) vwCl (gB G + a, cellE G M a) H) ∧ (z = true → PInv M ∧ 1098 ≤ mN M) ∧ mN M < 1000000
/-- what of the ground stays true: under warmer tables, under writes above the base -/
def GOK (G : GT) : Prop := (∀ (u U : State) (H : Heap), u.WarmedH U.vm → gZ G u H → gZ G U H) ∧ (∀ (u U : State) (H : Heap), u.vm = U.vm → gZ G u H → gZ G U H) ∧ ∀ (U : State) (H H1 : Heap), (∀ q, q < gB G → H1[q]? = H[q]?) → gZ G U H → gZ G U H1
theorem GOK.all (G : GT) : GOK G := ⟨fun _ _ _ => ZF.warm, fun _ _ _ => ZF.same, fun _ _ _ => ZF.kept⟩
def SOK (z : Bool) (G : GT) (M : Mm) (U : State) : Prop := GOK G ∧ va_K (gD G) vwCl (tysG G) U ∧ gZ G U U.heap ∧ RepH z G M U.heap
abbrev PQ : Type := Option Value → Mm → Prop
abbrev PX : Type := String → Mm → Prop
def Qr (z : Bool) (G : GT) (Q : PQ) : Array Value → State → Outcome → State → Prop := fun _ st o t =>
  ∃ (r : Option Value) (M' : Mm), Q r M' ∧ o = .returned (r.map (tv G)) ∧ RepH z G M' t.heap ∧ (∀ q, q < gB G → t.heap[q]? = st.heap[q]?) ∧ st.heap.size ≤ t.heap.size
def Qx (z : Bool) (G : GT) (QX : PX) : String → State → State → Prop := fun E st t =>
  ∃ M' : Mm, QX E M' ∧ RepH z G M' t.heap ∧ (∀ q, q < gB G → t.heap[q]? = st.heap[q]?) ∧ st.heap.size ≤ t.heap.size
/-- a method: its class, bytes, locals, what it returns, frames and locals' words that it takes, cells and slots that it makes -/
abbrev YT : Type := MethodName × ByteArray × Nat × Option FieldType × Nat × Nat × Nat × Nat
def yN (Y : YT) : MethodName := Y.1
def yB (Y : YT) : ByteArray := Y.2.1
def yL (Y : YT) : Nat := Y.2.2.1
def yR (Y : YT) : Option FieldType := Y.2.2.2.1
def yF (Y : YT) : Nat := Y.2.2.2.2.1
def yW (Y : YT) : Nat := Y.2.2.2.2.2.1
def yC (Y : YT) : Nat := Y.2.2.2.2.2.2.1
def yS (Y : YT) : Nat := Y.2.2.2.2.2.2.2
def yC1 (Y : YT) : Cond := .code (yN Y) (yB Y) (yL Y) (yR Y)
def yRoom (Y : YT) : Room := { frames := yF Y, cells := yC Y, slots := yS Y, locals := yW Y }
/-- the contract of a method from one memory and given arguments: it returns with Q or throws with QX -/
def Tr (z : Bool) (l : Launch) (G : GT) (Y : YT) (As : List Value) (M : Mm) (Q : PQ) (QX : PX) : Prop :=
  vx_Met l (yN Y) (yC1 Y :: WS) (yRoom Y) (fun v U => v = (As.map (tv G)).toArray ∧ SOK z G M U) (Qr z G Q) (Qx z G QX) (yC Y) (yS Y) (fun q => gB G ≤ q)
/-- a frame -/
abbrev FX : Type := Program × Env × State × MethodId × Array Value × List Frame × Method × Code
/-- what is fixed while the frame stands -/
def CX (l : Launch) (G : GT) (F : FX) (Y : YT) : Prop := match F with
  | (p, _, s, m, args, _, meth, c) => p.tables.exec = Jvm.exec ∧ c.code = yB Y ∧ c.maxLocals = yL Y ∧ meth.sig.returnType = yR Y ∧ meth.locks = false ∧ (∀ x ∈ c.exceptionTable.toList, False) ∧ s.vm.findClass (yN Y).cls = some m.cls ∧ (meth.name = (yN Y).name) ∧
    (∀ w ∈ WS, w.before args s = true) ∧ GOK G ∧ va_K (gD G) vwCl (tysG G) s ∧ gZ G s s.heap ∧ gB G ≤ s.heap.size
def isK (v : Value) : Bool := match v with
  | .retAddr _ => false
  | _ => true
def lvOf (G : GT) : Nat → List Value → List (Nat × Value)
  | _, [] => []
  | i, v :: L => if isK v = true then (i, tv G v) :: lvOf G (i + 1) L else lvOf G (i + 1) L
/-- the judgement at a place: k cells of n slots are made -/
def Wj (z : Bool) (l : Launch) (G : GT) (F : FX) (Y : YT) (Q : PQ) (QX : PX) (k n : Nat) (pc : Nat) (L : List Value) (st : List Value) (M : Mm) : Prop :=
  CX l G F Y → match F with
  | (p, e, s, m, args, below, meth, c) => ∀ (H : Heap) (locs : List Loc) (ls : Array Slot), RepH z G M H → (∀ q, q < gB G → H[q]? = s.heap[q]?) → s.heap.size ≤ H.size → (∀ x ∈ locs, gB G ≤ x.base) → lv_has ls (yL Y) (lvOf G 0 L) →
    W p l e (yRoom Y) s m args below meth c H locs k n (vx_MQ below (Qr z G Q) (Qx z G QX) args s (yC Y) (yS Y) (fun q => gB G ≤ q)) (F0 m pc ls (st.map (tv G)))
theorem lvOf_mem {G : GT} : ∀ (L : List Value) (i : Nat) (j : Nat) (v : Value), L[j]? = some v → isK v = true → (i + j, tv G v) ∈ lvOf G i L
  | [], i, j, v, h, _ => by simp at h
  | w :: L, i, j, v, h, hk => by
    cases j with
    | zero =>
      simp at h
      subst h
      simp [lvOf, hk]
    | succ j =>
      rw [List.getElem?_cons_succ] at h
      have := lvOf_mem (G := G) L (i + 1) j v h hk
      rw [show i + (j + 1) = i + 1 + j by omega]
      unfold lvOf
      split
      · exact List.mem_cons_of_mem _ this
      · exact this
theorem lvOf_of {G : GT} : ∀ (L : List Value) (i : Nat) (q : Nat × Value), q ∈ lvOf G i L → ∃ (j : Nat) (v : Value), L[j]? = some v ∧ isK v = true ∧ q = (i + j, tv G v)
  | [], i, q, h => by cases h
  | w :: L, i, q, h => by
    unfold lvOf at h
    split at h
    next hk =>
      rcases List.mem_cons.mp h with rfl | h
      · exact ⟨0, w, rfl, hk, rfl⟩
      · obtain ⟨j, v, h1, h2, h3⟩ := lvOf_of (G := G) L (i + 1) q h
        exact ⟨j + 1, v, by simpa using h1, h2, by rw [h3, show i + (j + 1) = i + 1 + j by omega]⟩
    next hk =>
      obtain ⟨j, v, h1, h2, h3⟩ := lvOf_of (G := G) L (i + 1) q h
      exact ⟨j + 1, v, by simpa using h1, h2, by rw [h3, show i + (j + 1) = i + 1 + j by omega]⟩
theorem lv_rd {G : GT} {ls : Array Slot} {nL i : Nat} {L : List Value} {v : Value} (h : lv_has ls nL (lvOf G 0 L)) (hv : L[i]? = some v) (hk : isK v = true) : ls[i]? = some (.val (tv G v)) := by
  have := h.2.2 _ (lvOf_mem (G := G) L 0 i v hv hk)
  simpa using this
theorem tv_cat (G : GT) (v : Value) : (tv G v).category = v.category := by
  cases v <;> rfl
/-- storing: what the locals are then -/
def xx : Value := .retAddr 0
def kil (v : Value) : Value := if v.category = 2 then xx else v
def st1 : List Value → Nat → Value → List Value
  | [], _, _ => []
  | _ :: L, 0, v => v :: L
  | w :: L, i + 1, v => (if i = 0 then kil w else w) :: st1 L i v
def st2 : List Value → Nat → Value → List Value
  | [], _, _ => []
  | _ :: [], 0, v => v :: []
  | _ :: _ :: L, 0, v => v :: xx :: L
  | w :: L, i + 1, v => (if i = 0 then kil w else w) :: st2 L i v

