/-! ===== BEGIN a private constructor of a nest mate that throws ===== -/
section VXIC
variable {p : Program} {l : Launch} {e : Env} {R : Room} {s : State} {m : MethodId} {args : Array Value} {below : List Frame} {meth : Method} {c : Code} {T : State} {locs : List Loc} {cells slots : Nat}
theorem vx_callIN (X : Stand p l e R s m args below meth c T locs cells slots) (hexec : p.tables.exec = Jvm.exec) {own : String} {index : Nat} {host : String} {y : MethodName} {bytes : ByteArray} {maxL : Nat}
    (hown : s.vm.findClass own = some m.cls) (hy1 : y.name = "<init>") (hlink : (Cond.methodLinkNest own index y host).before args s = true) (hinst : (Cond.instanceMethod y).before args s = true)
    (hcode : (Cond.code y bytes maxL none).before args s = true) (hy : y.cls ≠ "java/lang/invoke/MethodHandle" ∧ y.cls ≠ "java/lang/invoke/VarHandle")
    {W9 : Nat} {Pre : Pt → Array Value → Prop} {Post : Pt → Array Value → Option Value → Pt → Prop} {PostX : Pt → Array Value → Addr → Pt → Prop} (hK : vx_Back l R p e below s args y 3 W9 Pre Post PostX)
    {g : JFrame} (hg : g.method = m) (hsize : g.locals.size = c.maxLocals) {a : Addr} {argsL rest : List Value} (hlen : ∀ sig, parseMethodDescriptor y.desc = some sig → argsL.length = sig.parameters.length)
    (hstack : g.stack = argsL.reverse ++ .ref a :: rest) (hW : 2 * g.monitorRoom + (rest.map fun v => v.category).sum ≤ W9) (hdg : decode c.code g.pc = .ok (.invokespecial index, 3))
    (hpre : ∀ vm₁, s.WarmedH vm₁ → Pre ⟨T.setVm vm₁, locs, cells, slots⟩ (Value.ref a :: argsL).toArray) :
    (∃ (v : Option Value) (vm₁ : Vm) (B : Pt), s.WarmedH vm₁ ∧ Stand p l e R s m args below meth c B.U B.locs B.cells B.slots ∧ Post ⟨T.setVm vm₁, locs, cells, slots⟩ (Value.ref a :: argsL).toArray v B ∧
      ∀ target, Steps p.tables e below (B.U.setTop { g with pc := g.pc + 3, stack := v.toList ++ rest }) target → Steps p.tables e below (T.setTop g) target) ∨
    (∃ (q : Addr) (vm₁ : Vm) (B : Pt), s.WarmedH vm₁ ∧ Stand p l e R s m args below meth c B.U B.locs B.cells B.slots ∧ PostX ⟨T.setVm vm₁, locs, cells, slots⟩ (Value.ref a :: argsL).toArray q B ∧
      Steps p.tables e below (T.setTop g) ((B.U.setTop { g with stack := rest }).pushFrame (.throwing q))) := by
  subst hg
  have hpl : e.platform.magicAccessors = ({} : Platform).magicAccessors := by rw [X.admits.platform]
  obtain ⟨mk, methM, cM, kP, vm₁, hnamed, hmethM, hcodeM, -, hlocalsM, -, hkP, -, hW₁, hstep₁⟩ := Steps.initColdArgsNest (e := e) X.here hexec X.warmed hpl hown hy1 hy hlink hinst hcode (f := g) rfl hlen hstack hdg
  have X₁ := X.noted hW₁
  rcases hK g.method meth c ⟨T.setVm vm₁, locs, cells, slots⟩ { g with stack := rest } (.invokespecial index) mk (Value.ref a :: argsL).toArray X₁ rfl hsize hdg hW (X₁.named hnamed) (hpre vm₁ X₁.warmed) with ⟨v, B, X', hpost, hsteps⟩ | ⟨q, B, X', hpost, hsteps⟩
  · exact Or.inl ⟨v, vm₁, B, X₁.warmed, X', hpost, fun target h => hstep₁ _ fun acts => by rw [doInvoke_state]; exact hsteps.trans h⟩
  · exact Or.inr ⟨q, vm₁, B, X₁.warmed, X', hpost, hstep₁ _ fun acts => by rw [doInvoke_state]; exact hsteps⟩
end VXIC
section VXID
variable {p : Program} {l : Launch} {e : Env} {R : Room} {s : State} {m : MethodId} {args : Array Value} {below : List Frame} {meth : Method} {c : Code} {H : Heap} {locs : List Loc} {cells slots : Nat}
theorem vx_runIN {y : MethodName} {bytes cc : ByteArray} {maxL nL mc ms n index : Nat} {ws : List Cond} {rm : Room} {Pc : Array Value → State → Prop} {Qc : Array Value → State → Outcome → State → Prop} {XC : String → State → State → Prop} {free : Addr → Prop} {Ts : List Cond} {own host : String} {b : Addr} {As rest : List Value} {g : JFrame}
    (S : CallFix p m c cc nL s args Ts own) (hM : vx_Met l y ws rm Pc Qc XC mc ms free) (cw : va_CN R s args own index y host bytes maxL none ws rm mc ms n ∧ y.name = "<init>" ∧ (Cond.instanceMethod y).before args s = true) (hp : PreS s H Pc (.ref b :: As))
    (hg : g.method = m) (hn : As.length = n) (hsize : g.locals.size = nL) (hstack : g.stack = As.reverse ++ .ref b :: rest) (hW : 2 * g.monitorRoom + (rest.map fun v => v.category).sum ≤ 8) (hdg : decode cc g.pc = .ok (.invokespecial index, 3)) (hf : cells + mc ≤ R.cells ∧ slots + ms ≤ R.slots) :
    vx_Run p l e R s m args below meth c H locs cells slots mc ms g rest (Qc (Value.ref b :: As).toArray) XC free := by
  obtain ⟨⟨⟨hrc, hrs, hfr, hlo, hws, hcw⟩, hcode, hini, hy, hlen, hl⟩, hx1, hx2⟩ := cw
  have hK : vx_Back l R p e below s args y 3 8 (PreOf R mc ms Pc) (PostOf Qc mc ms free) (vx_Post XC mc ms free) := vx_back (bytes := bytes) (maxL := maxL) (ret := none) hM hp.1 hrc hrs hfr hlo hws hcw (fun a' U hW => word_at hW (Or.inl (by first | rfl | simp [Cond.onTables, Cond.keeps, Cond.steady])) hini)
  obtain ⟨hx, hb, hml, ho, -⟩ := S
  have hPc := hp.2
  intro T hT X
  rcases vx_callIN X hx (bytes := bytes) (maxL := maxL) ho hx1 hl hx2 hcode hy hK hg (hsize.trans hml.symm) (a := b) (argsL := As) (rest := rest) (fun sig h => hn.trans (hlen sig h)) hstack hW (by rw [hb]; exact hdg)
    (fun vm₁ hW₁ => ⟨hf.1, hf.2, hPc (T.setVm vm₁) hT hW₁⟩) with ⟨v, vm₁, ⟨U', l2, c2, s2⟩, hW₁, X', ⟨g', mk, t, L, e1, e2, hq, h1, hL, h2, h3⟩, st⟩ | ⟨q, vm₁, ⟨U', l2, c2, s2⟩, hW₁, X', ⟨g', mk, t, L, E, ce, e1, e2, hq, hce, hcv, hcl, h1, hL, h2, h3⟩, st⟩
  · dsimp only [Pt.U, Pt.locs, Pt.cells, Pt.slots] at X' e1 e2 h1 h2 h3 st
    subst h1; subst h2; subst h3
    exact Or.inl ⟨v, (T.setVm vm₁).calling g' mk (Value.ref b :: As).toArray, t, U', L, hT, X', hL, e1, e2, hq, st⟩
  · dsimp only [Pt.U, Pt.locs, Pt.cells, Pt.slots] at X' e1 e2 h1 h2 h3 st hcl
    subst h1; subst h2; subst h3
    exact Or.inr ⟨q, (T.setVm vm₁).calling g' mk (Value.ref b :: As).toArray, t, U', L, E, ce, hT, X', hL, e1, e2, hq, hce, hcv, vx_cls hW₁ hcl, st⟩
end VXID
/-! ===== END ===== -/
/-! ===== THE WALK, seventh part: what is made ===== -/
def isAN : Cond → Bool
  | .arrayOver _ => true
  | .methodLinkNest _ _ _ _ => true
  | _ => false
def GPN : List Cond := tables_1.filter isAN
def GP2 (X : KX) : Prop := ∀ w ∈ GPN, ∀ U : State, kG X U → va_Nw w U
theorem gn_tab {w : Cond} (i : Nat) (h : tables_1[i]? = some w) (g : isAN w = true) : w ∈ GPN := List.mem_filter.mpr ⟨List.mem_of_getElem? h, g⟩
def CallIN (own : String) (idx : Nat) (host : String) (M' : MI) (na : Nat) : Prop := Cond.methodLinkNest own idx (my M') host ∈ GPN ∧ Cond.initialized (my M').cls ∈ GW ∧ mcode M' ∈ GW ∧ (my M').cls ≠ "java/lang/invoke/MethodHandle" ∧ (my M').cls ≠ "java/lang/invoke/VarHandle" ∧ (parseMethodDescriptor (my M').desc).map (fun d => d.parameters.length) = some na ∧ mtab M' = [] ∧ mret M' = none ∧ (my M').name = "<init>" ∧ Cond.instanceMethod (my M') ∈ GW
section VX7
variable {X : KX} {M : MI} {F : FT} {k n pc : Nat} {lv lv' : List (Nat × Value)} {rest : List Value} {h : AH} {Z : ZT}
theorem V_cIN (hg2 : GP2 X) {M' : MI} {As : List Value} {b idx : Nat} {host : String} {Q : AH → Prop} (hdg : decode (mcc M) pc = .ok (.invokespecial idx, 3)) (hcv : CallIN (my M).cls idx host M' As.length) (hC : Ct X M' (.ref b :: As) h (zM none Q)) (hRm : RoomOK M M' k n) (hst : (rest.map fun v => v.category).sum ≤ 8) {st : List Value} (hstk : st = As.reverse ++ .ref b :: rest) (kk : ∀ h', Q h' → V X M F (k + (mR M').cells) (n + (mR M').slots) (pc + 3) lv rest h') : V X M F k n pc lv st h := by
  refine V.back (A := .ref b :: As) (Z' := zM none Q) rfl ?_ (fun v' h' hz => by obtain ⟨e, q⟩ := hz; cases e; exact kk h' q) (fun E h' hz => by cases hz.1)
  intro p e s m args below meth c H locs ls hF hR hS hL
  have g7 := hF.kg
  obtain ⟨g1, g2, g3, g4, g5, g6, -⟩ := hF
  obtain ⟨c1, c2, c3, c4, c5, c6, c7, c8, c9, c10⟩ := hcv
  have hm : mcode M' = Cond.code (my M') (mcc M') (mnL M') none := by unfold mcode; rw [c7, c8]; rfl
  exact vx_runIN (Ts := GW) (bytes := mcc M') (maxL := mnL M') ⟨g1, g2, g3, g4, g5⟩ hC ⟨⟨⟨rfl, rfl, hRm.1, hRm.2.1, pay_in g5 (gw_in c3), by rw [← hm]; exact List.mem_cons_self⟩, by rw [← hm]; exact g5 _ c3, g5 _ c2, ⟨c4, c5⟩, fun sig hs => by
    rw [hs] at c6
    exact (Option.some.inj c6).symm, va_Nw.use rfl (hg2 _ c1 s g7)⟩, c9, g5 _ c10⟩ ⟨kPc_blind, fun U hU hW => ⟨rfl, by rw [hU]; exact hR, g6.moved hW⟩⟩ rfl rfl hL.1 hstk (lv_room hst) hdg ⟨hRm.2.2.1, hRm.2.2.2⟩
theorem V_cI {M' : MI} {As : List Value} {b idx : Nat} {Q : AH → Prop} (hdg : decode (mcc M) pc = .ok (.invokespecial idx, 3)) (hcv : CallI (my M).cls idx M' As.length ∧ Cond.instanceMethod (my M') ∈ GW) (ht : mtab M' = []) (hret : mret M' = none) (hnm : (my M').name = "<init>") (hC : Ct X M' (.ref b :: As) h (zM none Q)) (hRm : RoomOK M M' k n) (hst : (rest.map fun v => v.category).sum ≤ 8) {st : List Value} (hstk : st = As.reverse ++ .ref b :: rest) (kk : ∀ h', Q h' → V X M F (k + (mR M').cells) (n + (mR M').slots) (pc + 3) lv rest h') : V X M F k n pc lv st h :=
  V_callI hdg hcv ht hret hnm hC hRm hst hstk (fun h' hz => kk h' hz.2) (fun v h' hz => by cases hz.1) (fun E h' hz => by cases hz.1)
theorem V_newq (hg2 : GP2 X) {z : Int32} {N t idx : Nat} {C : String} (hdg : decode (mcc M) pc = .ok (.anewarray idx, 3)) (hw : Cond.classLink (my M).cls idx C ∈ GW) (hA : Cond.arrayOver (.object C) ∈ GPN) (ht : (kT X)[t]? = some (kA X t, .object C)) (h0 : ¬ z < 0) (hN : z.toNatClampNeg = N) (hby : N * 4 ≤ 536870912) (hroom : k + 1 ≤ (mR M).cells ∧ n + N ≤ (mR M).slots) (kk : V X M F (k + 1) (n + N) (pc + 3) lv (.ref h.1 :: rest) (hnew h (aQ (kA X t) N (fun _ => none)))) : V X M F k n pc lv (.int z :: rest) h := fun p e s m args below meth c H locs ls hF hR hS hL => by
  have g7 := hF.kg
  obtain ⟨hx, hb, hml, hown, hts, hKS, -⟩ := id hF
  subst hN
  refine W.anew hx hb hown (hts _ hw) (va_AO.use (show va_AO C s from hg2 _ hA s g7)) rfl hdg rfl h0 hby hroom.1 hroom.2 fun cA kA9 comp f1 f2 f3 f4 => ?_
  obtain ⟨kA', comp', k1, k2, k3, k4⟩ := (hKS.1.2 t _ ht).2
  have hcA : cA = kA X t := Option.some.inj (f1.symm.trans k4)
  subst hcA
  generalize hH1 : H.push ({ cls := kA X t, slots := Array.replicate z.toNatClampNeg .null, vm := .none } : Cell) = H1
  have z1 : H1.size = H.size + 1 := by rw [← hH1, Array.size_push]
  have e1 : H1[H.size]? = some (arrV (kA X t) z.toNatClampNeg (fun _ => .null)) := by rw [← hH1, Array.getElem?_push_size, ← arrV_new]
  have o1 : ∀ q : Nat, q < H.size → H1[q]? = H[q]? := fun q hq => by rw [← hH1, Array.getElem?_push, if_neg (Nat.ne_of_lt hq)]
  rw [hR.1]
  refine kk p e s m args below meth c H1 locs ls hF (hR.new ?_ z1 o1) (V.sNew hS z1 o1) hL
  show H1[h.1]? = some (vp_cell _ _)
  rw [← hR.1, e1, vp_cell_q]
  rfl
/-! steps that name the new heap -/
theorem hnew_B {e : va_E} {b : Nat} (hb : h.1 = b) : (hnew h e).1 = b + 1 ∧ (hnew h e).2 b = some e ∧ ∀ q, q ≠ b → (hnew h e).2 q = h.2 q := by
  subst hb
  exact ⟨rfl, if_pos rfl, fun q hq => if_neg hq⟩
theorem V_newiB {z : Int32} {N b : Nat} (hb : h.1 = b) (hdg : decode (mcc M) pc = .ok (.newarray .int, 2)) (hw : Cond.arrayClass .int ∈ GW) (h0 : ¬ z < 0) (hN : z.toNatClampNeg = N) (hby : N * 4 ≤ 536870912) (hroom : k + 1 ≤ (mR M).cells ∧ n + N ≤ (mR M).slots) (kk : ∀ h1 : AH, h1.1 = b + 1 → h1.2 b = some (aL (kA X 0) (List.replicate N 0)) → (∀ q, q ≠ b → h1.2 q = h.2 q) → V X M F (k + 1) (n + N) (pc + 2) lv (.ref b :: rest) h1) : V X M F k n pc lv (.int z :: rest) h := V_newi hdg hw h0 hN hby hroom (by
  have q := hnew_B (e := aL (kA X 0) (List.replicate N 0)) hb
  rw [hb]
  exact kk _ q.1 q.2.1 q.2.2)
theorem V_newcB {z : Int32} {N b : Nat} (hb : h.1 = b) (hdg : decode (mcc M) pc = .ok (.newarray .char, 2)) (hw : Cond.arrayClass .char ∈ GW) (h0 : ¬ z < 0) (hN : z.toNatClampNeg = N) (hby : N * 2 ≤ 536870912) (hroom : k + 1 ≤ (mR M).cells ∧ n + N ≤ (mR M).slots) (kk : ∀ h1 : AH, h1.1 = b + 1 → h1.2 b = some (aL (kA X 1) (List.replicate N 0)) → (∀ q, q ≠ b → h1.2 q = h.2 q) → V X M F (k + 1) (n + N) (pc + 2) lv (.ref b :: rest) h1) : V X M F k n pc lv (.int z :: rest) h := V_newc hdg hw h0 hN hby hroom (by
  have q := hnew_B (e := aL (kA X 1) (List.replicate N 0)) hb
  rw [hb]
  exact kk _ q.1 q.2.1 q.2.2)
theorem V_newbB {z : Int32} {N b : Nat} (hb : h.1 = b) (hdg : decode (mcc M) pc = .ok (.newarray .byte, 2)) (hw : Cond.arrayClass .byte ∈ GW) (h0 : ¬ z < 0) (hN : z.toNatClampNeg = N) (hby : N * 1 ≤ 536870912) (hroom : k + 1 ≤ (mR M).cells ∧ n + N ≤ (mR M).slots) (kk : ∀ h1 : AH, h1.1 = b + 1 → h1.2 b = some (aL (kA X 2) (List.replicate N 0)) → (∀ q, q ≠ b → h1.2 q = h.2 q) → V X M F (k + 1) (n + N) (pc + 2) lv (.ref b :: rest) h1) : V X M F k n pc lv (.int z :: rest) h := V_newb hdg hw h0 hN hby hroom (by
  have q := hnew_B (e := aL (kA X 2) (List.replicate N 0)) hb
  rw [hb]
  exact kk _ q.1 q.2.1 q.2.2)
theorem V_newqB (hg2 : GP2 X) {z : Int32} {N t idx b : Nat} {C : String} (hb : h.1 = b) (hdg : decode (mcc M) pc = .ok (.anewarray idx, 3)) (hw : Cond.classLink (my M).cls idx C ∈ GW) (hA : Cond.arrayOver (.object C) ∈ GPN) (ht : (kT X)[t]? = some (kA X t, .object C)) (h0 : ¬ z < 0) (hN : z.toNatClampNeg = N) (hby : N * 4 ≤ 536870912) (hroom : k + 1 ≤ (mR M).cells ∧ n + N ≤ (mR M).slots) (kk : ∀ h1 : AH, h1.1 = b + 1 → h1.2 b = some (aQ (kA X t) N (fun _ => none)) → (∀ q, q ≠ b → h1.2 q = h.2 q) → V X M F (k + 1) (n + N) (pc + 3) lv (.ref b :: rest) h1) : V X M F k n pc lv (.int z :: rest) h := V_newq hg2 hdg hw hA ht h0 hN hby hroom (by
  have q := hnew_B (e := aQ (kA X t) N (fun _ => none)) hb
  rw [hb]
  exact kk _ q.1 q.2.1 q.2.2)
theorem V_newB {ci idx N b : Nat} {C : String} {T : u_T} {ty : Nat → FieldType} {fs : List Value} (hb : h.1 = b) (hdg : decode (mcc M) pc = .ok (.new idx, 3)) (hw : Cond.classLink (my M).cls idx C ∈ GW ∧ Cond.instantiable C N ∈ GW ∧ Cond.initialized C ∈ GW) (hin : ∀ w ∈ u_ws C T N, w ∈ GW) (hty : ∀ k, k < N → parseFieldDescriptor (T k).2.2.1 = some (ty k)) (hcl : vwCl[ci]? = some (C, T, N)) (hfs : ∀ j, j < N → defaultValue (ty j) = vp_V fs j) (hroom : k + 1 ≤ (mR M).cells ∧ n + N ≤ (mR M).slots) (kk : ∀ h1 : AH, h1.1 = b + 1 → h1.2 b = some (.inr (ci, fs)) → (∀ q, q ≠ b → h1.2 q = h.2 q) → V X M F (k + 1) (n + N) (pc + 3) lv (.ref b :: rest) h1) : V X M F k n pc lv rest h := V_new hdg hw hin hty hcl hfs hroom (by
  have q := hnew_B (e := (.inr (ci, fs) : va_E)) hb
  rw [hb]
  exact kk _ q.1 q.2.1 q.2.2)
theorem V_putFB {a ci idx N : Nat} {fs fs' : List Value} {C ref : String} {T : u_T} (j : Nat) {v : Value} {ty : FieldType} {ty0 : Nat → FieldType} (hdg : decode (mcc M) pc = .ok (.putfield idx, 3)) (hw : Cond.fieldLink (my M).cls idx ref (T j).2.1 (T j).2.2.1 ∈ GW) (hin : ∀ w ∈ u_ws C T N, w ∈ GW) (hty : ∀ k, k < N → parseFieldDescriptor (T k).2.2.1 = some (ty0 k)) (hnm : ∀ a, a < N → ∀ b, b < N → a ≠ b → (T a).2.1 ≠ (T b).2.1) (hcl : vwCl[ci]? = some (C, T, N)) (hj : j < N) (hre : (T j).1 = ref) (hfin : (T j).2.2.2 = true) (hinit : (my M).name = "<init>") (hdecl : (T j).1 = (my M).cls) (hd : parseFieldDescriptor (T j).2.2.1 = some ty) (ha : h.2 a = some (.inr (ci, fs))) (hn : narrow ty v = v) (hfit : fits ty v = true) (hl : j < fs.length) (hs : fs.set j v = fs') (kk : ∀ h1 : AH, h1.1 = h.1 → h1.2 a = some (.inr (ci, fs')) → (∀ q, q ≠ a → h1.2 q = h.2 q) → V X M F k n (pc + 3) lv rest h1) : V X M F k n pc lv (v :: .ref a :: rest) h := V_putF j hdg hw hin hty hnm hcl hj hre hfin hinit hdecl hd ha hn hfit hl (by
  rw [hs]
  exact kk _ rfl hput_at (fun q hq => hput_ne hq))
theorem V_putB {a ci idx N : Nat} {fs fs' : List Value} {C ref : String} {T : u_T} (j : Nat) {v : Value} {ty : FieldType} {ty0 : Nat → FieldType} (hdg : decode (mcc M) pc = .ok (.putfield idx, 3)) (hw : Cond.fieldLink (my M).cls idx ref (T j).2.1 (T j).2.2.1 ∈ GW) (hin : ∀ w ∈ u_ws C T N, w ∈ GW) (hty : ∀ k, k < N → parseFieldDescriptor (T k).2.2.1 = some (ty0 k)) (hnm : ∀ a, a < N → ∀ b, b < N → a ≠ b → (T a).2.1 ≠ (T b).2.1) (hcl : vwCl[ci]? = some (C, T, N)) (hj : j < N) (hre : (T j).1 = ref) (hfin : (T j).2.2.2 = false) (hd : parseFieldDescriptor (T j).2.2.1 = some ty) (ha : h.2 a = some (.inr (ci, fs))) (hn : narrow ty v = v) (hfit : fits ty v = true) (hl : j < fs.length) (hs : fs.set j v = fs') (kk : ∀ h1 : AH, h1.1 = h.1 → h1.2 a = some (.inr (ci, fs')) → (∀ q, q ≠ a → h1.2 q = h.2 q) → V X M F k n (pc + 3) lv rest h1) : V X M F k n pc lv (v :: .ref a :: rest) h := V_put j hdg hw hin hty hnm hcl hj hre hfin hd ha hn hfit hl (by
  rw [hs]
  exact kk _ rfl hput_at (fun q hq => hput_ne hq))
end VX7
