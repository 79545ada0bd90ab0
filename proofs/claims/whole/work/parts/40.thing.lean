/-! THINGS. One list of words for all their methods; a super call of a method that the class above inherits. -/
def wzA : List Cond := wsX0_shows ++ (wsX0_tells ++ (wsX1_shares ++ (wsX1_shows ++ (wsX2_tells ++ (wsX2_shares ++ (wsX5_shows ++ (wsX5_moves ++ (wsX7_moves ++ (wsX8_shows ++ (wsX8_moves ++ (wsX8_shares ++ (wsX8_tells ++ [])))))))))))) 
def wzE : List Cond := [.methodLink RX1 19 ⟨RX7, "shares", "(I)I"⟩, .sameMethod RX7 RX8 "shares" "(I)I", .superclass RX1 RX7, .superclass RX7 RX8, .methodLink RX1 23 ⟨RX7, "shows", "(I)I"⟩, .sameMethod RX7 RX8 "shows" "(I)I", .methodLink RX5 23 ⟨RX0, "moves", "(I)I"⟩, .sameMethod RX0 RX8 "moves" "(I)I", .superclass RX5 RX0, .superclass RX0 RX8, .instanceMethod yX8_moves, .instanceMethod yX8_shows, .instanceMethod yX8_shares, .initialized RX8]
def wzT : List Cond := wzE ++ wzA
set_option maxRecDepth 100000 in
theorem wzE_good : wzE.all goodWord = true := by decide +kernel
set_option maxRecDepth 100000 in
theorem wzA_good : wzA.all goodWord = true := by decide +kernel
theorem wzT_good : wzT.all goodWord = true := by
  rw [wzT, List.all_append, wzE_good, wzA_good]
  rfl
def wz (y : MethodName) (c : ByteArray) (n : Nat) (r : Option FieldType) : List Cond := Cond.code y c n r :: wzT
theorem wz_in {y : MethodName} {c : ByteArray} {n : Nat} {r : Option FieldType} {w : Cond} (h : w ∈ wzA) : w ∈ wz y c n r := List.mem_cons_of_mem _ (List.mem_append_right _ h)
theorem wz_inE {y : MethodName} {c : ByteArray} {n : Nat} {r : Option FieldType} {w : Cond} (h : w ∈ wzE) : w ∈ wz y c n r := List.mem_cons_of_mem _ (List.mem_append_left _ h)
/-- a thing's method's words among those of a list that holds them all -/
theorem wz_goodIn {big : List Cond} (hb : ∀ w ∈ wzT, w ∈ big) {y : MethodName} {c : ByteArray} {n : Nat} {r : Option FieldType} (hc : Cond.code y c n r ∈ wzA) : GoodIn big (wz y c n r) := by
  intro w hw
  have h1 : w ∈ wzT := by
    rcases List.mem_cons.mp hw with h | h
    · rw [h]; exact List.mem_append_right _ hc
    · exact h
  exact ⟨hb w h1, good_of_word (List.all_eq_true.mp wzT_good w h1)⟩
theorem good_pre {Ts big pre ws wz' : List Cond} (h : GoodIn Ts (pre ++ ws)) (hs : ∀ w ∈ Ts, w ∈ big) (hz : GoodIn big wz') : GoodIn big (pre ++ wz') := by
  intro w hw
  rcases List.mem_append.mp hw with h1 | h1
  · exact ⟨hs w (h w (List.mem_append_left _ h1)).1, (h w (List.mem_append_left _ h1)).2⟩
  · exact hz w h1
theorem good_sub {Ts big ws : List Cond} (h : GoodIn Ts ws) (hs : ∀ w ∈ Ts, w ∈ big) : GoodIn big ws := fun w hw => ⟨hs w (h w hw).1, (h w hw).2⟩
section SX1
variable {p : Program} {l : Launch} {e : Env} {R : Room} {s : State} {m : MethodId} {args : Array Value} {below : List Frame} {meth : Method} {c : Code} {H : Heap} {locs : List Loc} {cells slots : Nat}
theorem callSX {T : State} (X : Stand p l e R s m args below meth c T locs cells slots) (hexec : p.tables.exec = Jvm.exec) {own owner : String} {index : Nat} {x y : MethodName} {bytes : ByteArray} {maxL : Nat} {ret : Option FieldType}
    (hown : s.vm.findClass own = some m.cls) (hlink : (Cond.methodLink own index x).before args s = true) (hsame : (Cond.sameMethod x.cls owner x.name x.desc).before args s = true) (hsup : (Cond.superclass own x.cls).before args s = true) (hsup2 : (Cond.superclass x.cls owner).before args s = true)
    (hy : y = ⟨owner, x.name, x.desc⟩) (hinst : (Cond.instanceMethod y).before args s = true) (hcode : (Cond.code y bytes maxL ret).before args s = true) (hno : x.name ≠ "<init>")
    {W : Nat} {Pre : Pt → Array Value → Prop} {Post : Pt → Array Value → Option Value → Pt → Prop} (hK : Back l R p e below s args y 3 W Pre Post)
    {b : Addr} {cellB : Cell} {kB : Class} (hcell : T.heap[b]? = some cellB) (hobj : cellB.vm.isStatics = false) (hkB : s.vm.classes[cellB.cls]? = some kB)
    {g : JFrame} (hg : g.method = m) (hsize : g.locals.size = c.maxLocals) {argsL rest : List Value} (hlen : ∀ sig, parseMethodDescriptor y.desc = some sig → argsL.length = sig.parameters.length)
    (hstack : g.stack = argsL.reverse ++ .ref b :: rest) (hW : 2 * g.monitorRoom + (rest.map fun v => v.category).sum ≤ W) (hdg : decode c.code g.pc = .ok (.invokespecial index, 3))
    (hpre : ∀ vm₁, s.WarmedH vm₁ → Pre ⟨T.setVm vm₁, locs, cells, slots⟩ (Value.ref b :: argsL).toArray) :
    ∃ (v : Option Value) (vm₁ : Vm) (B : Pt), s.WarmedH vm₁ ∧ Stand p l e R s m args below meth c B.U B.locs B.cells B.slots ∧ Post ⟨T.setVm vm₁, locs, cells, slots⟩ (Value.ref b :: argsL).toArray v B ∧
      ∀ target, Steps p.tables e below (B.U.setTop { g with pc := g.pc + 3, stack := v.toList ++ rest }) target → Steps p.tables e below (T.setTop g) target := by
  obtain ⟨mk, methM, hnamed, hmethM, hstM, habM⟩ := Cond.instanceMethod_spec hinst
  obtain ⟨methM', cM, hmethM', -, -, -, -, -, -, hsigM⟩ := Cond.code_spec hnamed hcode
  cases hmethM.symm.trans hmethM'
  obtain ⟨ps, dk, kp, hps, hdk, hkp, hsuper, -, -, hnid⟩ := Cond.superclass_spec hown hsup
  obtain ⟨po, dk2, kp2, hpo, hdk2, hkp2, hsuper2, -, -, -⟩ := Cond.superclass_spec hps hsup2
  have hn : s.methodNamed? ⟨owner, x.name, x.desc⟩ = some mk := by rw [← hy]; exact hnamed
  have hpm : po = mk.cls := by
    have h1 := findClass_of_methodNamed hnamed
    rw [hy] at h1
    exact Option.some.inj (hpo.symm.trans h1)
  have hlt : ps < s.vm.classes.size := (Array.getElem?_eq_some_iff.mp hdk2).1
  have hsub : s.vm.isSubclass ps mk.cls = true := by
    rw [← hpm, Vm.isSubclass]
    obtain ⟨k, hk⟩ := Nat.exists_eq_succ_of_ne_zero (Nat.ne_of_gt (Nat.lt_of_le_of_lt (Nat.zero_le _) hlt))
    rw [hk, Vm.isSubclassAux, hdk2]
    simp only [hsuper2]
    rw [Vm.isSubclassAux]
    simp
  obtain ⟨vm₁, X₁, hstep₁⟩ := X.invokespecialUp hexec hown hlink hsame hn hmethM hstM habM hno hdk hnid hps hsuper hsub (a := b) (cell := cellB) hcell
    (fun z h => by rw [h] at hobj; cases hobj) hkB (g := g) hg (argsL := argsL) (rest := rest) (hlen _ hsigM) hstack hdg
  obtain ⟨v, B, X', hpost, hsteps⟩ := hK m meth c ⟨T.setVm vm₁, locs, cells, slots⟩ { g with stack := rest } (.invokespecial index) mk (Value.ref b :: argsL).toArray X₁ hg hsize hdg hW (X₁.named hnamed) (hpre vm₁ X₁.warmed)
  exact ⟨v, vm₁, B, X₁.warmed, X', hpost, fun target h => hstep₁ _ (by rw [doInvoke_state]; exact hsteps.trans h)⟩
variable {nL : Nat}
theorem runSX {x y : MethodName} {bytes cc : ByteArray} {maxL mc ms n index : Nat} {ret : Option FieldType} {ws ws' : List Cond} {rm : Room} {Pc : Array Value → State → Prop} {Qc : Array Value → State → Outcome → State → Prop} {free : Addr → Prop} {Ts : List Cond} {own owner C : String} {cC : ClassId} {b : Addr} {As rest : List Value} {g : JFrame}
    (hat : ClassAt s C cC) (S : CallFix p m c cc nL s args Ts own) (hM : Met l y ws rm Pc Qc mc ms free) (hw : ws = Cond.code y bytes maxL ret :: ws') (hG : GoodIn Ts ws) (hrc : rm.cells = mc) (hrs : rm.slots = ms) (hR : rm.frames + 1 ≤ R.frames ∧ 8 + (maxL + 11) + rm.locals ≤ R.locals)
    (hlink : (Cond.methodLink own index x).before args s = true) (hsame : (Cond.sameMethod x.cls owner x.name x.desc).before args s = true) (hsup : (Cond.superclass own x.cls).before args s = true) (hsup2 : (Cond.superclass x.cls owner).before args s = true) (hinst : (Cond.instanceMethod y).before args s = true) (hini : (Cond.initialized y.cls).before args s = true)
    (hy : y = ⟨owner, x.name, x.desc⟩) (hd : x.name ≠ "<init>" ∧ (parseMethodDescriptor y.desc).map (fun d => d.parameters.length) = some n) (hp : PreV s H C b Pc As)
    (hg : g.method = m) (hn : As.length = n) (hsize : g.locals.size = nL) (hstack : g.stack = As.reverse ++ .ref b :: rest) (hW : 2 * g.monitorRoom + (rest.map fun v => v.category).sum ≤ 8) (hdg : decode cc g.pc = .ok (.invokespecial index, 3)) (hf : cells + mc ≤ R.cells ∧ slots + ms ≤ R.slots) :
    va_Run p l e R s m args below meth c H locs cells slots mc ms g rest (Qc (Value.ref b :: As).toArray) (free) := by
  obtain ⟨hx, hb, hml, ho, hts⟩ := S
  have hc : Cond.code y bytes maxL ret ∈ ws := by rw [hw]; exact List.mem_cons_self
  have hcode := hts _ (hG _ hc).1
  have hK : Back l R p e below s args y 3 8 (PreOf R mc ms Pc) (PostOf Qc mc ms free) := back_of (bytes := bytes) (maxL := maxL) (ret := ret) hM hp.1 hrc hrs hR.1 hR.2 (pay_in hts hG) hc (fun a' U hW => word_at hW (Or.inl (by first | rfl | simp [Cond.onTables, Cond.keeps, Cond.steady])) hini)
  obtain ⟨-, ⟨cellB, hcB, hoB, hclB⟩, hPc⟩ := hp
  obtain ⟨hfc, kB, hkB, -⟩ := hat
  have hkB' : s.vm.classes[cellB.cls]? = some kB := by
    rw [hfc] at hclB
    rw [← Option.some.inj hclB]
    exact hkB
  intro T hT X
  obtain ⟨v, vm₁, ⟨U', l2, c2, s2⟩, hW₁, X', ⟨g', mk, t, L, e1, e2, hq, h1, hL, h2, h3⟩, st⟩ := callSX X hx (bytes := bytes) (maxL := maxL) (ret := ret) ho hlink hsame hsup hsup2 hy hinst hcode hd.1 hK (by rw [hT]; exact hcB) hoB hkB' hg (hsize.trans hml.symm) (argsL := As) (rest := rest) (fun sig h => by
      have h2 := hd.2
      rw [h] at h2
      exact hn.trans (Option.some.inj h2).symm) hstack hW (by rw [hb]; exact hdg)
    (fun vm₁ hW₁ => ⟨hf.1, hf.2, hPc (T.setVm vm₁) hT hW₁⟩)
  dsimp only [Pt.U, Pt.locs, Pt.cells, Pt.slots] at X' e1 e2 h1 h2 h3 st
  subst h1; subst h2; subst h3
  exact ⟨v, (T.setVm vm₁).calling g' mk (Value.ref b :: As).toArray, t, U', L, hT, X', hL, e1, e2, hq, st⟩
end SX1
