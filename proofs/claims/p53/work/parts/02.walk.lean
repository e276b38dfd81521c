/-! ===== THE WALK OVER ONE ABSTRACT HEAP: own words, over the kit's rows ===== -/
/-- the words that stand in the tables and are good anywhere -/
def GW : List Cond := lw_tbl.filter goodWord
theorem gw_tab {w : Cond} (i : Nat) (h : tables_1[i]? = some w) (g : goodWord w = true) : w ∈ GW := List.mem_filter.mpr ⟨List.mem_append_right _ (List.mem_of_getElem? h), g⟩
theorem gw_sel {q : MethodName × Nat} (i : Nat) (h : lw_privs[i]? = some q) (g : goodWord (Cond.selects q.1.cls q.1 q.1) = true) : Cond.selects q.1.cls q.1 q.1 ∈ GW := List.mem_filter.mpr ⟨List.mem_append_left _ (List.mem_map.mpr ⟨q, List.mem_of_getElem? h, rfl⟩), g⟩
theorem gw_good {w : Cond} (h : w ∈ GW) : (w.onTables && w.keeps) = true ∨ ∃ ty, w = .arrayClass ty := good_of_word (List.mem_filter.mp h).2
/-- the context of one run of the law: launch, classes, slots, array classes, where its own cells begin, the heap then, the script (cell, length, ints), addresses of things that were there -/
abbrev KX : Type := Launch × (Nat → ClassId) × (Nat → Nat → Nat) × (Nat → ClassId) × Nat × Heap × Nat × Nat × (Nat → Int32) × (Nat → Nat) × (State → Prop) × (Nat → Bool)
def kl (X : KX) : Launch := X.1
def kD (X : KX) : va_G := (X.2.1, X.2.2.1)
def kA (X : KX) : Nat → ClassId := X.2.2.2.1
def kN (X : KX) : Nat := X.2.2.2.2.1
def kH (X : KX) : Heap := X.2.2.2.2.2.1
def kb (X : KX) : Nat := X.2.2.2.2.2.2.1
def kL (X : KX) : Nat := X.2.2.2.2.2.2.2.1
def kxs (X : KX) : Nat → Int32 := X.2.2.2.2.2.2.2.2.1
def kad (X : KX) : Nat → Nat := X.2.2.2.2.2.2.2.2.2.1
/-- what else is given of the things that were there -/
def kG (X : KX) : State → Prop := X.2.2.2.2.2.2.2.2.2.2.1
/-- own cells that the callee doesn't know, and leaves alone -/
def kP (X : KX) : Nat → Bool := X.2.2.2.2.2.2.2.2.2.2.2
def kT (X : KX) : List (ClassId × FieldType) := [(kA X 0, .int), (kA X 1, .char), (kA X 2, .byte), (kA X 3, .long), (kA X 4, .object "SilentOpera$Sheet"), (kA X 5, .object "SilentOpera$Command")]
def kFr (X : KX) : Nat → Prop := fun q => kN X ≤ q ∧ kP X q = false
/-- a heap's own cells by address, and its size -/
abbrev AH : Type := Nat × (Nat → Option va_E)
def hput (h : AH) (a : Nat) (e : va_E) : AH := (h.1, fun q => if q = a then some e else h.2 q)
def hnew (h : AH) (e : va_E) : AH := (h.1 + 1, fun q => if q = h.1 then some e else h.2 q)
def Rep (X : KX) (h : AH) (H : Heap) : Prop := H.size = h.1 ∧ (kN X ≤ h.1 ∧ ∀ q, kP X q = true → q < h.1) ∧ (∀ a e, h.2 a = some e → kFr X a ∧ va_at (kD X) vwCl (a, e) H) ∧ ∀ q, q < (kH X).size → ¬ kFr X q → H[q]? = (kH X)[q]?
/-- what is known of the tables and of the things that were there -/
def KSt (X : KX) (U : State) : Prop := kN X ≤ (kH X).size ∧ kb X < kN X ∧ va_X (kb X) (kL X) (kxs X) U (kH X) ∧ kG X U ∧ ∀ a b : State, kG X a → a.WarmedH b.vm → kG X b
def KS (X : KX) (U : State) : Prop := va_K (kD X) vwCl (kT X) U ∧ KSt X U
theorem KS.moved {X : KX} {u U : State} (hW : u.WarmedH U.vm) (h : KS X u) : KS X U := ⟨va_K.moved hW.alike h.1, h.2.1, h.2.2.1, va_X.moved hW.alike h.2.2.2.1, h.2.2.2.2.2 u U h.2.2.2.2.1 hW, h.2.2.2.2.2⟩
/-- a method: its name, code, locals, answer, table of handlers, room -/
abbrev MI : Type := MethodName × ByteArray × Nat × Option FieldType × List (Nat × Nat × Nat × Nat) × Room
abbrev my (M : MI) : MethodName := M.1
abbrev mcc (M : MI) : ByteArray := M.2.1
abbrev mnL (M : MI) : Nat := M.2.2.1
abbrev mret (M : MI) : Option FieldType := M.2.2.2.1
abbrev mtab (M : MI) : List (Nat × Nat × Nat × Nat) := M.2.2.2.2.1
abbrev mR (M : MI) : Room := M.2.2.2.2.2
def mcode (M : MI) : Cond := if (mtab M).isEmpty then .code (my M) (mcc M) (mnL M) (mret M) else .codeWith (my M) (mcc M) (mnL M) (mret M) (mtab M)
def Fx (X : KX) (M : MI) (p : Program) (s : State) (m : MethodId) (args : Array Value) (meth : Method) (c : Code) : Prop :=
  p.tables.exec = Jvm.exec ∧ c.code = mcc M ∧ c.maxLocals = mnL M ∧ s.vm.findClass (my M).cls = some m.cls ∧ (∀ w ∈ GW, w.before args s = true) ∧ KS X s ∧ meth.sig.returnType = mret M ∧ meth.locks = false ∧ meth.name = (my M).name ∧ c.exceptionTable.toList = tableOf (mtab M) ∧ (kl X).stackTraces = false ∧ (kN X ≤ s.heap.size ∧ ∀ q, kP X q = true → q < s.heap.size) ∧ ∀ q, q < (kH X).size → ¬ kFr X q → s.heap[q]? = (kH X)[q]?
abbrev FT : Type := List Frame → Array Value → State → State → Prop
/-- goal first: the machine, in M at pc with these locals and this stack, over any heap that shows h, comes to F -/
def V (X : KX) (M : MI) (F : FT) (k n pc : Nat) (lv : List (Nat × Value)) (st : List Value) (h : AH) : Prop :=
  ∀ (p : Program) (e : Env) (s : State) (m : MethodId) (args : Array Value) (below : List Frame) (meth : Method) (c : Code) (H : Heap) (locs : List Loc) (ls : Array Slot), Fx X M p s m args meth c → Rep X h H → va_S (kFr X) s.heap H locs → lv_has ls (mnL M) lv → W p (kl X) e (mR M) s m args below meth c H locs k n (F below args s) (F0 m pc ls st)
/-- .. with an exception of class E thrown over the frame -/
def VX (X : KX) (M : MI) (F : FT) (k n pc : Nat) (lv : List (Nat × Value)) (E : String) (h : AH) : Prop :=
  ∀ (p : Program) (e : Env) (s : State) (m : MethodId) (args : Array Value) (below : List Frame) (meth : Method) (c : Code) (H : Heap) (locs : List Loc) (ls : Array Slot) (rest : List Value) (q : Addr) (ce : Cell), Fx X M p s m args meth c → Rep X h H → va_S (kFr X) s.heap H locs → lv_has ls (mnL M) lv → H[q]? = some ce → ce.vm = .none → s.vm.findClass E = some ce.cls → vx_W p (kl X) e (mR M) s m args below meth c H locs k n (F below args s) (F0 m pc ls rest) q
abbrev Out : Type := Option Value ⊕ String
abbrev ZT : Type := Out → AH → Prop
def zQ (X : KX) (Z : ZT) : Array Value → State → Outcome → State → Prop := fun _ st o t => (∃ (v : Option Value) (h' : AH), o = .returned v ∧ Z (.inl v) h' ∧ Rep X h' t.heap) ∧ va_F (kFr X) st t
def zX (X : KX) (Z : ZT) : String → State → State → Prop := fun E st t => (∃ h' : AH, Z (.inr E) h' ∧ Rep X h' t.heap) ∧ va_F (kFr X) st t
def zF (X : KX) (M : MI) (Z : ZT) : FT := fun below args s => vx_MQ below (zQ X Z) (zX X Z) args s (mR M).cells (mR M).slots (kFr X)
def kPc (X : KX) (h : AH) : State → Prop := fun U => Rep X h U.heap ∧ KS X U
/-- a contract: called with A over a heap that shows h, it answers or throws so that Z holds -/
def Ct (X : KX) (M : MI) (A : List Value) (h : AH) (Z : ZT) : Prop := vx_Met (kl X) (my M) (mcode M :: GW) (mR M) (va_Pc A (kPc X h)) (zQ X Z) (zX X Z) (mR M).cells (mR M).slots (kFr X)
section VW
variable {X : KX} {M : MI} {F : FT} {k n pc : Nat} {lv lv' : List (Nat × Value)} {rest : List Value} {h : AH} {Z : ZT}
theorem V.wide {k' n' : Nat} (h1 : k ≤ k') (h2 : n ≤ n') {st : List Value} (kk : V X M F k' n' pc lv st h) : V X M F k n pc lv st h := fun p e s m args below meth c H locs ls hF hR hS hL => W.widen h1 h2 (kk p e s m args below meth c H locs ls hF hR hS hL)
theorem V.loc (ks : List Nat) (hl : lv_pick lv ks = lv') {st : List Value} (kk : V X M F k n pc lv' st h) : V X M F k n pc lv st h := fun p e s m args below meth c H locs ls hF hR hS hL => kk p e s m args below meth c H locs ls hF hR hS (lv_sub hL ks hl)

theorem V_iconst {i : Int} {v : Int32} (hdg : decode (mcc M) pc = .ok (.iconst i, 1)) (hv : Int32.ofInt i = v) (kk : V X M F k n (pc + 1) lv (.int v :: rest) h) : V X M F k n pc lv (rest) h := fun p e s m args below meth c H locs ls hF hR hS hL => lv_iconst hF.1 hF.2.1 hdg hv (kk p e s m args below meth c H locs ls hF hR hS hL)
theorem V_bipush {i : Int} {v : Int32} (hdg : decode (mcc M) pc = .ok (.bipush i, 2)) (hv : (Int8.ofInt i).toInt32 = v) (kk : V X M F k n (pc + 2) lv (.int v :: rest) h) : V X M F k n pc lv (rest) h := fun p e s m args below meth c H locs ls hF hR hS hL => lv_bipush hF.1 hF.2.1 hdg hv (kk p e s m args below meth c H locs ls hF hR hS hL)
theorem V_sipush {i : Int} {v : Int32} (hdg : decode (mcc M) pc = .ok (.sipush i, 3)) (hv : (Int16.ofInt i).toInt32 = v) (kk : V X M F k n (pc + 3) lv (.int v :: rest) h) : V X M F k n pc lv (rest) h := fun p e s m args below meth c H locs ls hF hR hS hL => lv_sipush hF.1 hF.2.1 hdg hv (kk p e s m args below meth c H locs ls hF hR hS hL)
theorem V_iload_n {q : Fin 4} {x : Int32} (hdg : decode (mcc M) pc = .ok (.iload_n q, 1)) (j : Nat) (hj : lv[j]? = some ((q : Nat), .int x)) (kk : V X M F k n (pc + 1) lv (.int x :: rest) h) : V X M F k n pc lv rest h := fun p e s m args below meth c H locs ls hF hR hS hL => lv_iload_n hF.1 hF.2.1 hdg rfl (lv_at hL j hj) (kk p e s m args below meth c H locs ls hF hR hS hL)
theorem V_iload {i : Nat} {x : Int32} (hdg : decode (mcc M) pc = .ok (.iload i, 2)) (j : Nat) (hj : lv[j]? = some (i, .int x)) (kk : V X M F k n (pc + 2) lv (.int x :: rest) h) : V X M F k n pc lv rest h := fun p e s m args below meth c H locs ls hF hR hS hL => lv_iload hF.1 hF.2.1 hdg (lv_at hL j hj) (kk p e s m args below meth c H locs ls hF hR hS hL)
theorem V_aload_n {q : Fin 4} {x : Nat} (hdg : decode (mcc M) pc = .ok (.aload_n q, 1)) (j : Nat) (hj : lv[j]? = some ((q : Nat), .ref x)) (kk : V X M F k n (pc + 1) lv (.ref x :: rest) h) : V X M F k n pc lv rest h := fun p e s m args below meth c H locs ls hF hR hS hL => lv_aload_n hF.1 hF.2.1 hdg rfl (lv_at hL j hj) (kk p e s m args below meth c H locs ls hF hR hS hL)
theorem V_aload {i : Nat} {x : Nat} (hdg : decode (mcc M) pc = .ok (.aload i, 2)) (j : Nat) (hj : lv[j]? = some (i, .ref x)) (kk : V X M F k n (pc + 2) lv (.ref x :: rest) h) : V X M F k n pc lv rest h := fun p e s m args below meth c H locs ls hF hR hS hL => lv_aload hF.1 hF.2.1 hdg (lv_at hL j hj) (kk p e s m args below meth c H locs ls hF hR hS hL)
theorem V_lload_n {q : Fin 4} {x : Int64} (hdg : decode (mcc M) pc = .ok (.lload_n q, 1)) (j : Nat) (hj : lv[j]? = some ((q : Nat), .long x)) (kk : V X M F k n (pc + 1) lv (.long x :: rest) h) : V X M F k n pc lv rest h := fun p e s m args below meth c H locs ls hF hR hS hL => lv_lload_n hF.1 hF.2.1 hdg rfl (lv_at hL j hj) (kk p e s m args below meth c H locs ls hF hR hS hL)
theorem V_lload {i : Nat} {x : Int64} (hdg : decode (mcc M) pc = .ok (.lload i, 2)) (j : Nat) (hj : lv[j]? = some (i, .long x)) (kk : V X M F k n (pc + 2) lv (.long x :: rest) h) : V X M F k n pc lv rest h := fun p e s m args below meth c H locs ls hF hR hS hL => lv_lload hF.1 hF.2.1 hdg (lv_at hL j hj) (kk p e s m args below meth c H locs ls hF hR hS hL)
theorem V_fload_n {q : Fin 4} {x : UInt32} (hdg : decode (mcc M) pc = .ok (.fload_n q, 1)) (j : Nat) (hj : lv[j]? = some ((q : Nat), .float x)) (kk : V X M F k n (pc + 1) lv (.float x :: rest) h) : V X M F k n pc lv rest h := fun p e s m args below meth c H locs ls hF hR hS hL => lv_fload_n hF.1 hF.2.1 hdg rfl (lv_at hL j hj) (kk p e s m args below meth c H locs ls hF hR hS hL)
theorem V_fload {i : Nat} {x : UInt32} (hdg : decode (mcc M) pc = .ok (.fload i, 2)) (j : Nat) (hj : lv[j]? = some (i, .float x)) (kk : V X M F k n (pc + 2) lv (.float x :: rest) h) : V X M F k n pc lv rest h := fun p e s m args below meth c H locs ls hF hR hS hL => lv_fload hF.1 hF.2.1 hdg (lv_at hL j hj) (kk p e s m args below meth c H locs ls hF hR hS hL)
theorem V_dload_n {q : Fin 4} {x : UInt64} (hdg : decode (mcc M) pc = .ok (.dload_n q, 1)) (j : Nat) (hj : lv[j]? = some ((q : Nat), .double x)) (kk : V X M F k n (pc + 1) lv (.double x :: rest) h) : V X M F k n pc lv rest h := fun p e s m args below meth c H locs ls hF hR hS hL => lv_dload_n hF.1 hF.2.1 hdg rfl (lv_at hL j hj) (kk p e s m args below meth c H locs ls hF hR hS hL)
theorem V_dload {i : Nat} {x : UInt64} (hdg : decode (mcc M) pc = .ok (.dload i, 2)) (j : Nat) (hj : lv[j]? = some (i, .double x)) (kk : V X M F k n (pc + 2) lv (.double x :: rest) h) : V X M F k n pc lv rest h := fun p e s m args below meth c H locs ls hF hR hS hL => lv_dload hF.1 hF.2.1 hdg (lv_at hL j hj) (kk p e s m args below meth c H locs ls hF hR hS hL)
theorem V_istore_n {q0 : Fin 4} {i : Nat} {x : Int32} (hdg : decode (mcc M) pc = .ok (.istore_n q0, 1)) (hi : (q0 : Nat) = i) (hn : i < mnL M) (hl : (i, Value.int x) :: lv.filter (fun q => !(q.1 == i) && !(q.1 + 1 == i && q.2.category == 2)) = lv') (kk : V X M F k n (pc + 1) lv' rest h) : V X M F k n pc lv (.int x :: rest) h := fun p e s m args below meth c H locs ls hF hR hS hL => lv_istore_n hF.1 hF.2.1 hdg hi hL hn hl (fun ls9 hL9 => kk p e s m args below meth c H locs ls9 hF hR hS hL9)
theorem V_istore {i : Nat} {x : Int32} (hdg : decode (mcc M) pc = .ok (.istore i, 2)) (hn : i < mnL M) (hl : (i, Value.int x) :: lv.filter (fun q => !(q.1 == i) && !(q.1 + 1 == i && q.2.category == 2)) = lv') (kk : V X M F k n (pc + 2) lv' rest h) : V X M F k n pc lv (.int x :: rest) h := fun p e s m args below meth c H locs ls hF hR hS hL => lv_istore hF.1 hF.2.1 hdg hL hn hl (fun ls9 hL9 => kk p e s m args below meth c H locs ls9 hF hR hS hL9)
theorem V_astore_n {q0 : Fin 4} {i : Nat} {x : Nat} (hdg : decode (mcc M) pc = .ok (.astore_n q0, 1)) (hi : (q0 : Nat) = i) (hn : i < mnL M) (hl : (i, Value.ref x) :: lv.filter (fun q => !(q.1 == i) && !(q.1 + 1 == i && q.2.category == 2)) = lv') (kk : V X M F k n (pc + 1) lv' rest h) : V X M F k n pc lv (.ref x :: rest) h := fun p e s m args below meth c H locs ls hF hR hS hL => lv_astore_n hF.1 hF.2.1 hdg hi hL hn hl (fun ls9 hL9 => kk p e s m args below meth c H locs ls9 hF hR hS hL9)
theorem V_astore {i : Nat} {x : Nat} (hdg : decode (mcc M) pc = .ok (.astore i, 2)) (hn : i < mnL M) (hl : (i, Value.ref x) :: lv.filter (fun q => !(q.1 == i) && !(q.1 + 1 == i && q.2.category == 2)) = lv') (kk : V X M F k n (pc + 2) lv' rest h) : V X M F k n pc lv (.ref x :: rest) h := fun p e s m args below meth c H locs ls hF hR hS hL => lv_astore hF.1 hF.2.1 hdg hL hn hl (fun ls9 hL9 => kk p e s m args below meth c H locs ls9 hF hR hS hL9)
theorem V_lstore_n {q0 : Fin 4} {i : Nat} {x : Int64} (hdg : decode (mcc M) pc = .ok (.lstore_n q0, 1)) (hi : (q0 : Nat) = i) (hn : i + 1 < mnL M) (hl : (i, Value.long x) :: lv.filter (fun q => !(q.1 == i) && (!(q.1 == i + 1) && !(q.1 + 1 == i && q.2.category == 2))) = lv') (kk : V X M F k n (pc + 1) lv' rest h) : V X M F k n pc lv (.long x :: rest) h := fun p e s m args below meth c H locs ls hF hR hS hL => lv_lstore_n hF.1 hF.2.1 hdg hi hL hn hl (fun ls9 hL9 => kk p e s m args below meth c H locs ls9 hF hR hS hL9)
theorem V_lstore {i : Nat} {x : Int64} (hdg : decode (mcc M) pc = .ok (.lstore i, 2)) (hn : i + 1 < mnL M) (hl : (i, Value.long x) :: lv.filter (fun q => !(q.1 == i) && (!(q.1 == i + 1) && !(q.1 + 1 == i && q.2.category == 2))) = lv') (kk : V X M F k n (pc + 2) lv' rest h) : V X M F k n pc lv (.long x :: rest) h := fun p e s m args below meth c H locs ls hF hR hS hL => lv_lstore hF.1 hF.2.1 hdg hL hn hl (fun ls9 hL9 => kk p e s m args below meth c H locs ls9 hF hR hS hL9)
theorem V_iinc {i : Nat} {z : Int} {x v : Int32} (hdg : decode (mcc M) pc = .ok (.iinc i z, 3)) (j : Nat) (hj : lv[j]? = some (i, .int x)) (hv : x + Int32.ofInt z = v) (hn : i < mnL M) (hl : (i, Value.int v) :: lv.filter (fun q => !(q.1 == i) && !(q.1 + 1 == i && q.2.category == 2)) = lv') (kk : V X M F k n (pc + 3) lv' rest h) : V X M F k n pc lv rest h := fun p e s m args below meth c H locs ls hF hR hS hL => lv_iinc (k := j) hF.1 hF.2.1 hdg hL hj hv hn hl (fun ls9 hL9 => kk p e s m args below meth c H locs ls9 hF hR hS hL9)
theorem V_iadd {x y : Int32} (hdg : decode (mcc M) pc = .ok (.iadd, 1))  (kk : V X M F k n (pc + 1) lv (.int (x + y) :: rest) h) : V X M F k n pc lv (.int y :: .int x :: rest) h := fun p e s m args below meth c H locs ls hF hR hS hL => lv_iadd hF.1 hF.2.1 hdg  (kk p e s m args below meth c H locs ls hF hR hS hL)
theorem V_isub {x y : Int32} (hdg : decode (mcc M) pc = .ok (.isub, 1))  (kk : V X M F k n (pc + 1) lv (.int (x - y) :: rest) h) : V X M F k n pc lv (.int y :: .int x :: rest) h := fun p e s m args below meth c H locs ls hF hR hS hL => lv_isub hF.1 hF.2.1 hdg  (kk p e s m args below meth c H locs ls hF hR hS hL)
theorem V_imul {x y : Int32} (hdg : decode (mcc M) pc = .ok (.imul, 1))  (kk : V X M F k n (pc + 1) lv (.int (x * y) :: rest) h) : V X M F k n pc lv (.int y :: .int x :: rest) h := fun p e s m args below meth c H locs ls hF hR hS hL => lv_imul hF.1 hF.2.1 hdg  (kk p e s m args below meth c H locs ls hF hR hS hL)
theorem V_iand {x y : Int32} (hdg : decode (mcc M) pc = .ok (.iand, 1))  (kk : V X M F k n (pc + 1) lv (.int (x &&& y) :: rest) h) : V X M F k n pc lv (.int y :: .int x :: rest) h := fun p e s m args below meth c H locs ls hF hR hS hL => lv_iand hF.1 hF.2.1 hdg  (kk p e s m args below meth c H locs ls hF hR hS hL)
theorem V_ior {x y : Int32} (hdg : decode (mcc M) pc = .ok (.ior, 1))  (kk : V X M F k n (pc + 1) lv (.int (x ||| y) :: rest) h) : V X M F k n pc lv (.int y :: .int x :: rest) h := fun p e s m args below meth c H locs ls hF hR hS hL => lv_ior hF.1 hF.2.1 hdg  (kk p e s m args below meth c H locs ls hF hR hS hL)
theorem V_ixor {x y : Int32} (hdg : decode (mcc M) pc = .ok (.ixor, 1))  (kk : V X M F k n (pc + 1) lv (.int (x ^^^ y) :: rest) h) : V X M F k n pc lv (.int y :: .int x :: rest) h := fun p e s m args below meth c H locs ls hF hR hS hL => lv_ixor hF.1 hF.2.1 hdg  (kk p e s m args below meth c H locs ls hF hR hS hL)
theorem V_ishl {x y : Int32} (hdg : decode (mcc M) pc = .ok (.ishl, 1))  (kk : V X M F k n (pc + 1) lv (.int (x <<< (y &&& 31)) :: rest) h) : V X M F k n pc lv (.int y :: .int x :: rest) h := fun p e s m args below meth c H locs ls hF hR hS hL => lv_ishl hF.1 hF.2.1 hdg  (kk p e s m args below meth c H locs ls hF hR hS hL)
theorem V_ishr {x y : Int32} (hdg : decode (mcc M) pc = .ok (.ishr, 1))  (kk : V X M F k n (pc + 1) lv (.int (x >>> (y &&& 31)) :: rest) h) : V X M F k n pc lv (.int y :: .int x :: rest) h := fun p e s m args below meth c H locs ls hF hR hS hL => lv_ishr hF.1 hF.2.1 hdg  (kk p e s m args below meth c H locs ls hF hR hS hL)
theorem V_irem {x y : Int32} (hdg : decode (mcc M) pc = .ok (.irem, 1)) (hne : ¬ y = 0) (kk : V X M F k n (pc + 1) lv (.int (x - x / y * y) :: rest) h) : V X M F k n pc lv (.int y :: .int x :: rest) h := fun p e s m args below meth c H locs ls hF hR hS hL => lv_irem hF.1 hF.2.1 hdg hne (kk p e s m args below meth c H locs ls hF hR hS hL)
theorem V_idiv {x y : Int32} (hdg : decode (mcc M) pc = .ok (.idiv, 1)) (hne : ¬ y = 0) (kk : V X M F k n (pc + 1) lv (.int (x / y) :: rest) h) : V X M F k n pc lv (.int y :: .int x :: rest) h := fun p e s m args below meth c H locs ls hF hR hS hL => lv_idiv hF.1 hF.2.1 hdg hne (kk p e s m args below meth c H locs ls hF hR hS hL)
theorem V_ineg {x : Int32} (hdg : decode (mcc M) pc = .ok (.ineg, 1))  (kk : V X M F k n (pc + 1) lv (.int (-x) :: rest) h) : V X M F k n pc lv (.int x :: rest) h := fun p e s m args below meth c H locs ls hF hR hS hL => lv_ineg hF.1 hF.2.1 hdg  (kk p e s m args below meth c H locs ls hF hR hS hL)
theorem V_ladd {x y : Int64} (hdg : decode (mcc M) pc = .ok (.ladd, 1))  (kk : V X M F k n (pc + 1) lv (.long (x + y) :: rest) h) : V X M F k n pc lv (.long y :: .long x :: rest) h := fun p e s m args below meth c H locs ls hF hR hS hL => lv_ladd hF.1 hF.2.1 hdg  (kk p e s m args below meth c H locs ls hF hR hS hL)
theorem V_lmul {x y : Int64} (hdg : decode (mcc M) pc = .ok (.lmul, 1))  (kk : V X M F k n (pc + 1) lv (.long (x * y) :: rest) h) : V X M F k n pc lv (.long y :: .long x :: rest) h := fun p e s m args below meth c H locs ls hF hR hS hL => lv_lmul hF.1 hF.2.1 hdg  (kk p e s m args below meth c H locs ls hF hR hS hL)
theorem V_lcmp {x y : Int64} (hdg : decode (mcc M) pc = .ok (.lcmp, 1))  (kk : V X M F k n (pc + 1) lv (.int (lg_cmp x y) :: rest) h) : V X M F k n pc lv (.long y :: .long x :: rest) h := fun p e s m args below meth c H locs ls hF hR hS hL => W.lcmp hF.1 hF.2.1 hdg  (kk p e s m args below meth c H locs ls hF hR hS hL)
theorem V_i2l {x : Int32} {v : Int64} (hdg : decode (mcc M) pc = .ok (.i2l, 1)) (hv : x.toInt64 = v) (kk : V X M F k n (pc + 1) lv (.long v :: rest) h) : V X M F k n pc lv (.int x :: rest) h := fun p e s m args below meth c H locs ls hF hR hS hL => lv_i2l hF.1 hF.2.1 hdg hv (kk p e s m args below meth c H locs ls hF hR hS hL)
theorem V_i2c {x v : Int32} (hdg : decode (mcc M) pc = .ok (.i2c, 1)) (hv : (x.toUInt32 % 65536).toInt32 = v) (kk : V X M F k n (pc + 1) lv (.int v :: rest) h) : V X M F k n pc lv (.int x :: rest) h := fun p e s m args below meth c H locs ls hF hR hS hL => lv_i2c hF.1 hF.2.1 hdg hv (kk p e s m args below meth c H locs ls hF hR hS hL)
theorem V_i2b {x v : Int32} (hdg : decode (mcc M) pc = .ok (.i2b, 1)) (hv : x.toInt8.toInt32 = v) (kk : V X M F k n (pc + 1) lv (.int v :: rest) h) : V X M F k n pc lv (.int x :: rest) h := fun p e s m args below meth c H locs ls hF hR hS hL => lv_i2b hF.1 hF.2.1 hdg hv (kk p e s m args below meth c H locs ls hF hR hS hL)
theorem V_i2f {x : Int32} (hdg : decode (mcc M) pc = .ok (.i2f, 1))  (kk : V X M F k n (pc + 1) lv (.float (FP.i2f x) :: rest) h) : V X M F k n pc lv (.int x :: rest) h := fun p e s m args below meth c H locs ls hF hR hS hL => lv_i2f hF.1 hF.2.1 hdg  (kk p e s m args below meth c H locs ls hF hR hS hL)
theorem V_i2d {x : Int32} (hdg : decode (mcc M) pc = .ok (.i2d, 1))  (kk : V X M F k n (pc + 1) lv (.double (FP.i2d x) :: rest) h) : V X M F k n pc lv (.int x :: rest) h := fun p e s m args below meth c H locs ls hF hR hS hL => lv_i2d hF.1 hF.2.1 hdg  (kk p e s m args below meth c H locs ls hF hR hS hL)
theorem V_fdiv {x y : UInt32} (hdg : decode (mcc M) pc = .ok (.fdiv, 1)) (hne : vf_n32 (FP.fdiv x y)) (kk : V X M F k n (pc + 1) lv (.float (FP.fdiv x y) :: rest) h) : V X M F k n pc lv (.float y :: .float x :: rest) h := fun p e s m args below meth c H locs ls hF hR hS hL => lv_fdiv hF.1 hF.2.1 hdg hne (kk p e s m args below meth c H locs ls hF hR hS hL)
theorem V_ddiv {x y : UInt64} (hdg : decode (mcc M) pc = .ok (.ddiv, 1)) (hne : vf_n64 (FP.ddiv x y)) (kk : V X M F k n (pc + 1) lv (.double (FP.ddiv x y) :: rest) h) : V X M F k n pc lv (.double y :: .double x :: rest) h := fun p e s m args below meth c H locs ls hF hR hS hL => lv_ddiv hF.1 hF.2.1 hdg hne (kk p e s m args below meth c H locs ls hF hR hS hL)
theorem V_dup {v : Value} (hdg : decode (mcc M) pc = .ok (.dup, 1)) (hc : v.category = 1) (kk : V X M F k n (pc + 1) lv (v :: v :: rest) h) : V X M F k n pc lv (v :: rest) h := fun p e s m args below meth c H locs ls hF hR hS hL => lv_dup hF.1 hF.2.1 hdg hc (kk p e s m args below meth c H locs ls hF hR hS hL)
theorem V_dup_x1 {v w : Value} (hdg : decode (mcc M) pc = .ok (.dup_x1, 1)) (hc : v.category = 1) (hc2 : w.category = 1) (kk : V X M F k n (pc + 1) lv (v :: w :: v :: rest) h) : V X M F k n pc lv (v :: w :: rest) h := fun p e s m args below meth c H locs ls hF hR hS hL => lv_dup_x1 hF.1 hF.2.1 hdg hc hc2 (kk p e s m args below meth c H locs ls hF hR hS hL)
theorem V_dup2_11 {v w : Value} (hdg : decode (mcc M) pc = .ok (.dup2, 1)) (hc : v.category = 1) (hc2 : w.category = 1) (kk : V X M F k n (pc + 1) lv (v :: w :: v :: w :: rest) h) : V X M F k n pc lv (v :: w :: rest) h := fun p e s m args below meth c H locs ls hF hR hS hL => lv_dup2_11 hF.1 hF.2.1 hdg hc hc2 (kk p e s m args below meth c H locs ls hF hR hS hL)
theorem V_pop {v : Value} (hdg : decode (mcc M) pc = .ok (.pop, 1)) (hc : v.category = 1) (kk : V X M F k n (pc + 1) lv (rest) h) : V X M F k n pc lv (v :: rest) h := fun p e s m args below meth c H locs ls hF hR hS hL => lv_pop hF.1 hF.2.1 hdg hc (kk p e s m args below meth c H locs ls hF hR hS hL)
theorem V_null (hdg : decode (mcc M) pc = .ok (.aconst_null, 1)) (kk : V X M F k n (pc + 1) lv (.null :: rest) h) : V X M F k n pc lv rest h := fun p e s m args below meth c H locs ls hF hR hS hL => lv_null hF.1 hF.2.1 hdg (kk p e s m args below meth c H locs ls hF hR hS hL)
theorem V_goto {off : Int} {tgt : Nat} (hdg : decode (mcc M) pc = .ok (.goto off, 3)) (ht : (pc : Int) + off = (tgt : Int)) (kk : V X M F k n tgt lv rest h) : V X M F k n pc lv rest h := fun p e s m args below meth c H locs ls hF hR hS hL => lv_goto hF.1 hF.2.1 hdg ht (kk p e s m args below meth c H locs ls hF hR hS hL)
theorem V_if_eq {x : Int32} {off : Int} {tgt : Nat} (hdg : decode (mcc M) pc = .ok (.ifCond .eq off, 3)) (ht : (pc : Int) + off = (tgt : Int)) (kt : x = 0 → V X M F k n tgt lv rest h) (kf : ¬ x = 0 → V X M F k n (pc + 3) lv rest h) : V X M F k n pc lv (.int x :: rest) h := fun p e s m args below meth c H locs ls hF hR hS hL => lv_if_eq hF.1 hF.2.1 hdg ht (fun hc => kt hc p e s m args below meth c H locs ls hF hR hS hL) (fun hc => kf hc p e s m args below meth c H locs ls hF hR hS hL)
theorem V_if_ne {x : Int32} {off : Int} {tgt : Nat} (hdg : decode (mcc M) pc = .ok (.ifCond .ne off, 3)) (ht : (pc : Int) + off = (tgt : Int)) (kt : ¬ x = 0 → V X M F k n tgt lv rest h) (kf : x = 0 → V X M F k n (pc + 3) lv rest h) : V X M F k n pc lv (.int x :: rest) h := fun p e s m args below meth c H locs ls hF hR hS hL => lv_if_ne hF.1 hF.2.1 hdg ht (fun hc => kt hc p e s m args below meth c H locs ls hF hR hS hL) (fun hc => kf hc p e s m args below meth c H locs ls hF hR hS hL)
theorem V_if_lt {x : Int32} {off : Int} {tgt : Nat} (hdg : decode (mcc M) pc = .ok (.ifCond .lt off, 3)) (ht : (pc : Int) + off = (tgt : Int)) (kt : x < 0 → V X M F k n tgt lv rest h) (kf : ¬ x < 0 → V X M F k n (pc + 3) lv rest h) : V X M F k n pc lv (.int x :: rest) h := fun p e s m args below meth c H locs ls hF hR hS hL => lv_if_lt hF.1 hF.2.1 hdg ht (fun hc => kt hc p e s m args below meth c H locs ls hF hR hS hL) (fun hc => kf hc p e s m args below meth c H locs ls hF hR hS hL)
theorem V_if_ge {x : Int32} {off : Int} {tgt : Nat} (hdg : decode (mcc M) pc = .ok (.ifCond .ge off, 3)) (ht : (pc : Int) + off = (tgt : Int)) (kt : 0 ≤ x → V X M F k n tgt lv rest h) (kf : ¬ 0 ≤ x → V X M F k n (pc + 3) lv rest h) : V X M F k n pc lv (.int x :: rest) h := fun p e s m args below meth c H locs ls hF hR hS hL => lv_if_ge hF.1 hF.2.1 hdg ht (fun hc => kt hc p e s m args below meth c H locs ls hF hR hS hL) (fun hc => kf hc p e s m args below meth c H locs ls hF hR hS hL)
theorem V_if_gt {x : Int32} {off : Int} {tgt : Nat} (hdg : decode (mcc M) pc = .ok (.ifCond .gt off, 3)) (ht : (pc : Int) + off = (tgt : Int)) (kt : 0 < x → V X M F k n tgt lv rest h) (kf : ¬ 0 < x → V X M F k n (pc + 3) lv rest h) : V X M F k n pc lv (.int x :: rest) h := fun p e s m args below meth c H locs ls hF hR hS hL => lv_if_gt hF.1 hF.2.1 hdg ht (fun hc => kt hc p e s m args below meth c H locs ls hF hR hS hL) (fun hc => kf hc p e s m args below meth c H locs ls hF hR hS hL)
theorem V_if_le {x : Int32} {off : Int} {tgt : Nat} (hdg : decode (mcc M) pc = .ok (.ifCond .le off, 3)) (ht : (pc : Int) + off = (tgt : Int)) (kt : x ≤ 0 → V X M F k n tgt lv rest h) (kf : ¬ x ≤ 0 → V X M F k n (pc + 3) lv rest h) : V X M F k n pc lv (.int x :: rest) h := fun p e s m args below meth c H locs ls hF hR hS hL => lv_if_le hF.1 hF.2.1 hdg ht (fun hc => kt hc p e s m args below meth c H locs ls hF hR hS hL) (fun hc => kf hc p e s m args below meth c H locs ls hF hR hS hL)
theorem V_icmp_eq {x y : Int32} {off : Int} {tgt : Nat} (hdg : decode (mcc M) pc = .ok (.if_icmp .eq off, 3)) (ht : (pc : Int) + off = (tgt : Int)) (kt : x = y → V X M F k n tgt lv rest h) (kf : ¬ x = y → V X M F k n (pc + 3) lv rest h) : V X M F k n pc lv (.int y :: .int x :: rest) h := fun p e s m args below meth c H locs ls hF hR hS hL => lv_icmp_eq hF.1 hF.2.1 hdg ht (fun hc => kt hc p e s m args below meth c H locs ls hF hR hS hL) (fun hc => kf hc p e s m args below meth c H locs ls hF hR hS hL)
theorem V_icmp_ne {x y : Int32} {off : Int} {tgt : Nat} (hdg : decode (mcc M) pc = .ok (.if_icmp .ne off, 3)) (ht : (pc : Int) + off = (tgt : Int)) (kt : ¬ x = y → V X M F k n tgt lv rest h) (kf : x = y → V X M F k n (pc + 3) lv rest h) : V X M F k n pc lv (.int y :: .int x :: rest) h := fun p e s m args below meth c H locs ls hF hR hS hL => lv_icmp_ne hF.1 hF.2.1 hdg ht (fun hc => kt hc p e s m args below meth c H locs ls hF hR hS hL) (fun hc => kf hc p e s m args below meth c H locs ls hF hR hS hL)
theorem V_icmp_lt {x y : Int32} {off : Int} {tgt : Nat} (hdg : decode (mcc M) pc = .ok (.if_icmp .lt off, 3)) (ht : (pc : Int) + off = (tgt : Int)) (kt : x < y → V X M F k n tgt lv rest h) (kf : ¬ x < y → V X M F k n (pc + 3) lv rest h) : V X M F k n pc lv (.int y :: .int x :: rest) h := fun p e s m args below meth c H locs ls hF hR hS hL => lv_icmp_lt hF.1 hF.2.1 hdg ht (fun hc => kt hc p e s m args below meth c H locs ls hF hR hS hL) (fun hc => kf hc p e s m args below meth c H locs ls hF hR hS hL)
theorem V_icmp_ge {x y : Int32} {off : Int} {tgt : Nat} (hdg : decode (mcc M) pc = .ok (.if_icmp .ge off, 3)) (ht : (pc : Int) + off = (tgt : Int)) (kt : y ≤ x → V X M F k n tgt lv rest h) (kf : ¬ y ≤ x → V X M F k n (pc + 3) lv rest h) : V X M F k n pc lv (.int y :: .int x :: rest) h := fun p e s m args below meth c H locs ls hF hR hS hL => lv_icmp_ge hF.1 hF.2.1 hdg ht (fun hc => kt hc p e s m args below meth c H locs ls hF hR hS hL) (fun hc => kf hc p e s m args below meth c H locs ls hF hR hS hL)
theorem V_icmp_gt {x y : Int32} {off : Int} {tgt : Nat} (hdg : decode (mcc M) pc = .ok (.if_icmp .gt off, 3)) (ht : (pc : Int) + off = (tgt : Int)) (kt : y < x → V X M F k n tgt lv rest h) (kf : ¬ y < x → V X M F k n (pc + 3) lv rest h) : V X M F k n pc lv (.int y :: .int x :: rest) h := fun p e s m args below meth c H locs ls hF hR hS hL => lv_icmp_gt hF.1 hF.2.1 hdg ht (fun hc => kt hc p e s m args below meth c H locs ls hF hR hS hL) (fun hc => kf hc p e s m args below meth c H locs ls hF hR hS hL)
theorem V_icmp_le {x y : Int32} {off : Int} {tgt : Nat} (hdg : decode (mcc M) pc = .ok (.if_icmp .le off, 3)) (ht : (pc : Int) + off = (tgt : Int)) (kt : x ≤ y → V X M F k n tgt lv rest h) (kf : ¬ x ≤ y → V X M F k n (pc + 3) lv rest h) : V X M F k n pc lv (.int y :: .int x :: rest) h := fun p e s m args below meth c H locs ls hF hR hS hL => lv_icmp_le hF.1 hF.2.1 hdg ht (fun hc => kt hc p e s m args below meth c H locs ls hF hR hS hL) (fun hc => kf hc p e s m args below meth c H locs ls hF hR hS hL)
theorem V_tableIn {dflt lo hi : Int} {offs : Array Int} {len : Nat} {x : Int32} {off : Int} {tgt : Nat} (hdg : decode (mcc M) pc = .ok (.tableswitch dflt lo hi offs, len)) (h1 : ¬ x.toInt < lo) (h2 : ¬ hi < x.toInt) (ho : offs[(x.toInt - lo).toNat]? = some off) (ht : (pc : Int) + off = (tgt : Int)) (kk : V X M F k n tgt lv rest h) : V X M F k n pc lv (.int x :: rest) h := fun p e s m args below meth c H locs ls hF hR hS hL => lv_tableIn hF.1 hF.2.1 hdg h1 h2 ho ht (kk p e s m args below meth c H locs ls hF hR hS hL)
theorem V_tableOut {dflt lo hi : Int} {offs : Array Int} {len : Nat} {x : Int32} {tgt : Nat} (hdg : decode (mcc M) pc = .ok (.tableswitch dflt lo hi offs, len)) (h1 : x.toInt < lo ∨ hi < x.toInt) (ht : (pc : Int) + dflt = (tgt : Int)) (kk : V X M F k n tgt lv rest h) : V X M F k n pc lv (.int x :: rest) h := fun p e s m args below meth c H locs ls hF hR hS hL => lv_tableOut hF.1 hF.2.1 hdg h1 ht (kk p e s m args below meth c H locs ls hF hR hS hL)
/-! the ends -/
theorem V.frame {s : State} {args : Array Value} {H : Heap} {locs : List Loc} {v : Option Value} (hz : Z (.inl v) h) (hR : Rep X h H) (hS : va_S (kFr X) s.heap H locs) : ∀ t : State, t.heap = H → s.WarmedH t.vm → zQ X Z args s (.returned v) t := fun t ht _ => ⟨⟨v, h, rfl, hz, by rw [ht]; exact hR⟩, va_S.F hS ht⟩
theorem V_iret {v : Int32} (hdg : decode (mcc M) pc = .ok (.ireturn, 1)) (hr : mret M = some .int) (hc : k ≤ (mR M).cells ∧ n ≤ (mR M).slots) (hz : Z (.inl (some (.int v))) h) : V X M (zF X M Z) k n pc lv [.int v] h := fun p e s m args below meth c H locs ls hF hR hS hL => W.widen hc.1 hc.2 (vx_ret (W.iret hF.1 hF.2.1 (hF.2.2.2.2.2.2.1.trans hr) (V.frame hz hR hS) hS.2.2 hdg hF.2.2.2.2.2.2.2.1))
theorem V_zret {v : Int32} {ty : FieldType} (hdg : decode (mcc M) pc = .ok (.ireturn, 1)) (hr : mret M = some ty) (hn : narrow ty (.int v) = .int v) (hc : k ≤ (mR M).cells ∧ n ≤ (mR M).slots) (hz : Z (.inl (some (.int v))) h) : V X M (zF X M Z) k n pc lv [.int v] h := fun p e s m args below meth c H locs ls hF hR hS hL => W.widen hc.1 hc.2 (vx_ret (W.zret hF.1 hF.2.1 (hF.2.2.2.2.2.2.1.trans hr) hn (V.frame hz hR hS) hS.2.2 hdg hF.2.2.2.2.2.2.2.1))
theorem V_vret (hdg : decode (mcc M) pc = .ok (.return_, 1)) (hr : mret M = none) (hc : k ≤ (mR M).cells ∧ n ≤ (mR M).slots) (hz : Z (.inl none) h) : V X M (zF X M Z) k n pc lv [] h := fun p e s m args below meth c H locs ls hF hR hS hL => W.widen hc.1 hc.2 (vx_ret (W.vret hF.1 hF.2.1 (hF.2.2.2.2.2.2.1.trans hr) (V.frame hz hR hS) hS.2.2 hdg hF.2.2.2.2.2.2.2.1))
/-! the start -/
theorem Ct.of {A : List Value} {l0 : List (Nat × Value)} (hy : plainName (my M).cls = true) (ht : mtab M = []) (hA : (lg_sl A).length ≤ mnL M) (hl : lv_args 0 A = l0) (hxs : X.1.stackTraces = false) (kk : V X M (zF X M Z) 0 0 0 l0 [] h) : Ct X M A h Z := by
  have hm : mcode M = Cond.code (my M) (mcc M) (mnL M) (mret M) := by unfold mcode; rw [ht]; rfl
  refine vx_ofW (cc := mcc M) (maxL := mnL M) (ret := mret M) hy (congrArg (· :: GW) hm) ?_
  intro p e s m args below meth c s₁ B hml htab hv
  obtain ⟨rfl, hR, hK⟩ := hv
  have hts := atoms_spec (ws := mcode M :: GW) B.pre
  have htl : c.exceptionTable.toList = tableOf (mtab M) := by
    rw [ht]
    cases hc : c.exceptionTable.toList with
    | nil => rfl
    | cons a l => exact absurd (htab a (by rw [hc]; exact List.mem_cons_self)) id
  rw [lg_entry_eq]
  exact kk p e s m _ below meth c s.heap [] _ ⟨B.exec, B.bytes, hml, findClass_of_methodNamed B.named, fun w hw => hts w (List.mem_cons_of_mem _ hw), hK, B.returns, B.notSynchronized, (name_of_methodNamed B.named B.method).1, htl, hxs, by rw [hR.1]; exact hR.2.1, hR.2.2.2⟩ hR va_S.rf (hl ▸ lv_entry A hA)
/-! calls -/
/-- what the tables say of a call of M' by entry idx of the class own -/
def CallI (own : String) (idx : Nat) (M' : MI) (na : Nat) : Prop := Cond.methodLink own idx (my M') ∈ GW ∧ Cond.initialized (my M').cls ∈ GW ∧ mcode M' ∈ GW ∧ (my M').cls ≠ "java/lang/invoke/MethodHandle" ∧ (my M').cls ≠ "java/lang/invoke/VarHandle" ∧ (parseMethodDescriptor (my M').desc).map (fun d => d.parameters.length) = some na
def CallV (own : String) (idx : Nat) (M' : MI) (na : Nat) : Prop := CallI own idx M' na ∧ mtab M' = [] ∧ Cond.instanceMethod (my M') ∈ GW ∧ Cond.selects (my M').cls (my M') (my M') ∈ GW
def CallS (own : String) (idx : Nat) (M' : MI) (na : Nat) : Prop := CallI own idx M' na ∧ mtab M' = [] ∧ Cond.static (my M') ∈ GW
def RoomOK (M M' : MI) (k n : Nat) : Prop := (mR M').frames + 1 ≤ (mR M).frames ∧ 8 + (mnL M' + 11) + (mR M').locals ≤ (mR M).locals ∧ k + (mR M').cells ≤ (mR M).cells ∧ n + (mR M').slots ≤ (mR M).slots
theorem kPc_blind {A : List Value} : FrameBlind (va_Pc A (kPc X h)) := fun a U g mk q => ⟨q.1, q.2.1, KS.moved (u := U) (U := U.calling g mk a) (State.WarmedH.refl U) q.2.2⟩
theorem gw_in {M' : MI} (hw : mcode M' ∈ GW) : GoodIn GW (mcode M' :: GW) := fun w hm => by
  rcases List.mem_cons.mp hm with e | hm
  · rw [e]; exact ⟨hw, gw_good hw⟩
  · exact ⟨hm, gw_good hm⟩
theorem CallI.b {own : String} {idx na : Nat} {M' : MI} (hc : CallI own idx M' na) (ht : mtab M' = []) {R : Room} {s : State} {args : Array Value} (hts : ∀ w ∈ GW, w.before args s = true) (hR : (mR M').frames + 1 ≤ R.frames ∧ 8 + (mnL M' + 11) + (mR M').locals ≤ R.locals) : CallB R s args own idx (my M') (mcc M') (mnL M') (mret M') (mcode M' :: GW) (mR M') (mR M').cells (mR M').slots na := by
  have hm : mcode M' = Cond.code (my M') (mcc M') (mnL M') (mret M') := by unfold mcode; rw [ht]; rfl
  exact callB_of na hts (gw_in hc.2.2.1) (congrArg (· :: GW) hm) rfl rfl (hts _ hc.2.1) (hts _ hc.1) hc.2.2.2 hR
/-- behind a call that answered -/
theorem V.back {st : List Value} {Z' : ZT} {k' n' : Nat} {h0 : AH} {A : List Value} {free : Addr → Prop} (hfree : free = kFr X)
    (hr : ∀ (p : Program) (e : Env) (s : State) (m : MethodId) (args : Array Value) (below : List Frame) (meth : Method) (c : Code) (H : Heap) (locs : List Loc) (ls : Array Slot), Fx X M p s m args meth c → Rep X h0 H → va_S (kFr X) s.heap H locs → lv_has ls (mnL M) lv → vx_Run p (kl X) e (mR M) s m args below meth c H locs k n k' n' (F0 m pc ls st) rest (zQ X Z' A.toArray) (zX X Z') free)
    (ks : ∀ (v : Option Value) (h' : AH), Z' (.inl v) h' → V X M F (k + k') (n + n') (pc + 3) lv (v.toList ++ rest) h')
    (kx : ∀ (E : String) (h' : AH), Z' (.inr E) h' → VX X M F (k + k') (n + n') pc lv E h') : V X M F k n pc lv st h0 := by
  subst hfree
  intro p e s m args below meth c H locs ls hF hR hS hL T hT X0
  rcases hr p e s m args below meth c H locs ls hF hR hS hL T hT X0 with ⟨v, st₀, t, T', L, e0, X', hLf, e1, e2, ⟨⟨v', h', hv, hz, hrep⟩, hFr⟩, stp⟩ | ⟨q, st₀, t, T', L, E, ce, e0, X', hLf, e1, e2, ⟨⟨h', hz, hrep⟩, hFr⟩, hce, hcv, hcl, stp⟩
  · cases hv
    obtain ⟨t2, a1, b1⟩ := ks v h' hz p e s m args below meth c T'.heap (locs ++ L) ls hF (by rw [e1]; exact hrep) (vx_keep e0 e1 hS (fun _ _ z => z) (fun _ z => z) hLf hFr).2.2 hL T' rfl X'
    exact ⟨t2, stp t2 a1, b1⟩
  · obtain ⟨t2, a1, b1⟩ := kx E h' hz p e s m args below meth c T'.heap (locs ++ L) ls rest q ce hF (by rw [e1]; exact hrep) (vx_keep e0 e1 hS (fun _ _ z => z) (fun _ z => z) hLf hFr).2.2 hL (by rw [e1]; exact hce) hcv hcl T' rfl X'
    exact ⟨t2, stp.trans a1, b1⟩
theorem V_callV {M' : MI} {As : List Value} {b ci idx N : Nat} {fs : List Value} {T : u_T} {Z' : ZT} (hdg : decode (mcc M) pc = .ok (.invokevirtual idx, 3)) (hcv : CallV (my M).cls idx M' As.length) (hC : Ct X M' (.ref b :: As) h Z') (hb : h.2 b = some (.inr (ci, fs))) (hcl : vwCl[ci]? = some ((my M').cls, T, N)) (hRm : RoomOK M M' k n) (hst : (rest.map fun v => v.category).sum ≤ 8) {st : List Value} (hstk : st = As.reverse ++ .ref b :: rest)
    (ks : ∀ (v : Option Value) (h' : AH), Z' (.inl v) h' → V X M F (k + (mR M').cells) (n + (mR M').slots) (pc + 3) lv (v.toList ++ rest) h')
    (kx : ∀ (E : String) (h' : AH), Z' (.inr E) h' → VX X M F (k + (mR M').cells) (n + (mR M').slots) pc lv E h') : V X M F k n pc lv st h := by
  refine V.back (A := .ref b :: As) rfl ?_ ks kx
  intro p e s m args below meth c H locs ls hF hR hS hL
  obtain ⟨g1, g2, g3, g4, g5, g6, -⟩ := hF
  obtain ⟨q', e1, cell, e2, e3, e4, -⟩ := (hR.2.2.1 b _ hb).2
  have hq : q' = ((my M').cls, T, N) := Option.some.inj (e1.symm.trans hcl)
  exact vx_runV (C := (my M').cls) (Ts := GW) ⟨g1, g2, g3, g4, g5⟩ hC ⟨hcv.1.b hcv.2.1 g5 ⟨hRm.1, hRm.2.1⟩, g5 _ hcv.2.2.1, g5 _ hcv.2.2.2⟩ ⟨kPc_blind, ⟨cell, e2, by rw [e4]; rfl, by rw [e3]; exact (g6.1.1 ci _ hcl).2.1⟩, fun U hU hW => ⟨rfl, by rw [hU]; exact hR, g6.moved hW⟩⟩ rfl rfl hL.1 hstk (lv_room hst) hdg ⟨hRm.2.2.1, hRm.2.2.2⟩
theorem V_callS {M' : MI} {As : List Value} {idx : Nat} {Z' : ZT} (hdg : decode (mcc M) pc = .ok (.invokestatic idx, 3)) (hcv : CallS (my M).cls idx M' As.length) (hC : Ct X M' As h Z') (hRm : RoomOK M M' k n) (hst : (rest.map fun v => v.category).sum ≤ 8) {st : List Value} (hstk : st = As.reverse ++ rest)
    (ks : ∀ (v : Option Value) (h' : AH), Z' (.inl v) h' → V X M F (k + (mR M').cells) (n + (mR M').slots) (pc + 3) lv (v.toList ++ rest) h')
    (kx : ∀ (E : String) (h' : AH), Z' (.inr E) h' → VX X M F (k + (mR M').cells) (n + (mR M').slots) pc lv E h') : V X M F k n pc lv st h := by
  refine V.back (A := As) rfl ?_ ks kx
  intro p e s m args below meth c H locs ls hF hR hS hL
  obtain ⟨g1, g2, g3, g4, g5, g6, -⟩ := hF
  exact vx_runS (Ts := GW) ⟨g1, g2, g3, g4, g5⟩ hC ⟨hcv.1.b hcv.2.1 g5 ⟨hRm.1, hRm.2.1⟩, g5 _ hcv.2.2⟩ ⟨kPc_blind, fun U hU hW => ⟨rfl, by rw [hU]; exact hR, g6.moved hW⟩⟩ rfl rfl hL.1 hstk (lv_room hst) hdg ⟨hRm.2.2.1, hRm.2.2.2⟩
/-! fields -/
theorem Rep.at {H : Heap} (hR : Rep X h H) {a : Nat} {e : va_E} (ha : h.2 a = some e) : va_P (kD X) vwCl [(a, e)] H := fun j q hq => by
  match j, hq with
  | 0, hq => cases hq; exact (hR.2.2.1 a e ha).2
  | j + 1, hq => simp at hq
theorem V_get {a ci idx N : Nat} {fs : List Value} {C ref : String} {T : u_T} (j : Nat) {v : Value} (hdg : decode (mcc M) pc = .ok (.getfield idx, 3)) (hw : Cond.fieldLink (my M).cls idx ref (T j).2.1 (T j).2.2.1 ∈ GW) (hin : ∀ w ∈ u_ws C T N, w ∈ GW) (hcl : vwCl[ci]? = some (C, T, N)) (hj : j < N) (hre : (T j).1 = ref) (ha : h.2 a = some (.inr (ci, fs))) (hv : fs[j]? = some v) (kk : V X M F k n (pc + 3) lv (v :: rest) h) : V X M F k n pc lv (.ref a :: rest) h := fun p e s m args below meth c H locs ls hF hR hS hL => va_get hF.1 hF.2.1 hF.2.2.2.2.1 hin hF.2.2.2.1 hF.2.2.2.2.2.1.1 (hR.at ha) 0 rfl hcl j hj (hF.2.2.2.2.1 _ hw) (by subst hre; exact fun _ z => z) hv hdg (kk p e s m args below meth c H locs ls hF hR hS hL)
/-- a cell that was changed -/
theorem Rep.put {H H1 : Heap} (hR : Rep X h H) {a : Nat} {e e' : va_E} (ha : h.2 a = some e) (hat : va_at (kD X) vwCl (a, e') H1) (hz : H1.size = H.size) (ho : ∀ q : Nat, q ≠ a → H1[q]? = H[q]?) : Rep X (hput h a e') H1 := by
  obtain ⟨h1, h2, h3, h4⟩ := hR
  have hN := (h3 a e ha).1
  refine ⟨hz.trans h1, h2, fun b f hb => ?_, fun q hq hn => ?_⟩
  · by_cases hba : b = a
    · subst hba
      have : some e' = some f := by simpa [hput] using hb
      cases this
      exact ⟨hN, hat⟩
    · have hb2 : h.2 b = some f := by simpa [hput, hba] using hb
      exact ⟨(h3 b f hb2).1, (h3 b f hb2).2.kept (ho b hba)⟩
  · rw [ho q (fun e => hn (e ▸ hN))]
    exact h4 q hq hn
theorem V_put {a ci idx N : Nat} {fs : List Value} {C ref : String} {T : u_T} (j : Nat) {v : Value} {ty : FieldType} {ty0 : Nat → FieldType} (hdg : decode (mcc M) pc = .ok (.putfield idx, 3)) (hw : Cond.fieldLink (my M).cls idx ref (T j).2.1 (T j).2.2.1 ∈ GW) (hin : ∀ w ∈ u_ws C T N, w ∈ GW) (hty : ∀ k, k < N → parseFieldDescriptor (T k).2.2.1 = some (ty0 k)) (hnm : ∀ a, a < N → ∀ b, b < N → a ≠ b → (T a).2.1 ≠ (T b).2.1) (hcl : vwCl[ci]? = some (C, T, N)) (hj : j < N) (hre : (T j).1 = ref) (hfin : (T j).2.2.2 = false) (hd : parseFieldDescriptor (T j).2.2.1 = some ty) (ha : h.2 a = some (.inr (ci, fs))) (hn : narrow ty v = v) (hfit : fits ty v = true) (hl : j < fs.length) (kk : V X M F k n (pc + 3) lv rest (hput h a (.inr (ci, fs.set j v)))) : V X M F k n pc lv (v :: .ref a :: rest) h := by
  intro p e s m args below meth c H locs ls hF hR hS hL
  obtain ⟨hx, hb, hml, hown, hts, hKS, -⟩ := id hF
  have hap := va_apart (own := (my M).cls) hts hin ty0 hty hnm hKS.1 hcl
  obtain ⟨r, h1, cell, q1, q2, q3, q4⟩ := (hR.2.2.1 a _ ha).2
  have hr : r = (C, T, N) := Option.some.inj (h1.symm.trans hcl)
  subst hr
  obtain ⟨hSl, hfc, kC, hkC, hkind⟩ := hKS.1.1 ci _ hcl
  obtain ⟨cf, kf, fi, f, hi, hsl⟩ := hSl j hj
  have hlay := hts _ (hin _ (u_in_lay hj))
  unfold u_lay at hlay
  rw [if_neg (by rw [hfin]; decide)] at hlay
  have hst := (u_facts hfc hkC (u_lays hts hin hj) hi).1
  have h6 := u_store hfc hkC hkind hlay hi hd hn hfit
  have hsame : s.fieldFound? ref (T j).2.1 (T j).2.2.1 = some (cf, kf, fi, f) := by rw [← hre]; exact hi
  refine W.putK hx hb (f := f) ⟨hown, hts _ hw, ⟨_, _, _, hsame⟩, hst⟩ (by rw [q2]; exact h6) q1 q3 (by rw [hsl]; exact k2_hasslot (q4 j hj)) rfl rfl hdg fun H' e1 e2 e3 => ?_
  rw [hsl] at e1 ⊢
  exact kk p e s m args below meth c H' _ ls hF (hR.put ha ⟨_, hcl, t_OB.to (V := updV (vp_V fs) j v) ⟨_, e1, q2, q3, t_set q4 hap hj v⟩ (fun j _ => vp_updV_set hl v j)⟩ e2 e3) (hS.put e2 e3 (hR.2.2.1 a _ ha).1) hL
theorem V_putF {a ci idx N : Nat} {fs : List Value} {C ref : String} {T : u_T} (j : Nat) {v : Value} {ty : FieldType} {ty0 : Nat → FieldType} (hdg : decode (mcc M) pc = .ok (.putfield idx, 3)) (hw : Cond.fieldLink (my M).cls idx ref (T j).2.1 (T j).2.2.1 ∈ GW) (hin : ∀ w ∈ u_ws C T N, w ∈ GW) (hty : ∀ k, k < N → parseFieldDescriptor (T k).2.2.1 = some (ty0 k)) (hnm : ∀ a, a < N → ∀ b, b < N → a ≠ b → (T a).2.1 ≠ (T b).2.1) (hcl : vwCl[ci]? = some (C, T, N)) (hj : j < N) (hre : (T j).1 = ref) (hfin : (T j).2.2.2 = true) (hinit : (my M).name = "<init>") (hdecl : (T j).1 = (my M).cls) (hd : parseFieldDescriptor (T j).2.2.1 = some ty) (ha : h.2 a = some (.inr (ci, fs))) (hn : narrow ty v = v) (hfit : fits ty v = true) (hl : j < fs.length) (kk : V X M F k n (pc + 3) lv rest (hput h a (.inr (ci, fs.set j v)))) : V X M F k n pc lv (v :: .ref a :: rest) h := by
  intro p e s m args below meth c H locs ls hF hR hS hL
  obtain ⟨hx, hb, hml, hown, hts, hKS, -, -, hname, -⟩ := id hF
  have hap := va_apart (own := (my M).cls) hts hin ty0 hty hnm hKS.1 hcl
  obtain ⟨r, h1, cell, q1, q2, q3, q4⟩ := (hR.2.2.1 a _ ha).2
  have hr : r = (C, T, N) := Option.some.inj (h1.symm.trans hcl)
  subst hr
  obtain ⟨hSl, hfc, kC, hkC, hkind⟩ := hKS.1.1 ci _ hcl
  obtain ⟨cf, kf, fi, f, hi, hsl⟩ := hSl j hj
  have hlay := hts _ (hin _ (u_in_lay hj))
  unfold u_lay at hlay
  rw [if_pos hfin] at hlay
  have hst := (u_facts hfc hkC (u_lays hts hin hj) hi).1
  have hcf : m.cls = cf := by
    obtain ⟨_, _, c', _, _, _, -, -, hf', -, -, -, hown2, -⟩ := Cond.laysFinal_spec hlay
    have e1 : c' = cf := by have := hi.symm.trans hf'; simp at this; exact this.1.symm
    rw [hdecl] at hown2
    rw [← e1]; exact Option.some.inj (hown.symm.trans hown2)
  have h6 := u_fits hfc hkC hkind (Or.inr hlay) hi hd hn hfit
  have hsame : ∀ x, s.fieldFound? (T j).1 (T j).2.1 (T j).2.2.1 = some x → s.fieldFound? ref (T j).2.1 (T j).2.2.1 = some x := by subst hre; exact fun _ z => z
  refine W.putFinK hx hb hown (hts _ hw) (hsame _ hi) hst hcf (hname.trans hinit) (by rw [q2]; exact h6) q1 q3 (by rw [hsl]; exact k2_hasslot (q4 j hj)) rfl rfl hdg fun H' e1 e2 e3 => ?_
  rw [hsl] at e1 ⊢
  exact kk p e s m args below meth c H' _ ls hF (hR.put ha ⟨_, hcl, t_OB.to (V := updV (vp_V fs) j v) ⟨_, e1, q2, q3, t_set q4 hap hj v⟩ (fun j _ => vp_updV_set hl v j)⟩ e2 e3) (hS.put e2 e3 (hR.2.2.1 a _ ha).1) hL
end VW
