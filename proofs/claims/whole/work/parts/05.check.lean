/-! what a program worked out, checked: each entry of the code lists is what decode gives, and its words stand in lw_tbl -/
def xmt (i : Nat) : xMt := xms.getD i (⟨"MagazineDepotLaw", "law", "([I)Z"⟩, code, 4, some .boolean, 0, 0, 0, 0, true, 1)
def xY (i : Nat) : MethodName := (xmt i).1
def xB (i : Nat) : ByteArray := (xmt i).2.1
def xL (i : Nat) : Nat := (xmt i).2.2.1
def xR (i : Nat) : Option FieldType := (xmt i).2.2.2.1
def xSt? (i : Nat) : Bool := (xmt i).2.2.2.2.2.2.2.2.1
def xAr (i : Nat) : Nat := (xmt i).2.2.2.2.2.2.2.2.2
def xALL : List Cond := lw_tbl.filter goodWord
def xhw (p : Nat) (w : Cond) : Bool := decide (lw_tbl[p]? = some w) && goodWord w
theorem xhw_in {p : Nat} {w : Cond} (h : xhw p w = true) : w ∈ xALL := by
  simp only [xhw, Bool.and_eq_true, decide_eq_true_eq] at h
  exact List.mem_filter.mpr ⟨List.mem_of_getElem? h.1, h.2⟩
/-- the places of a class's words: instantiable, initialized -/
def xcw : List (Nat × Nat) := [(141, 114), (396, 120), (184, 116), (135, 113), (190, 117), (369, 119), (320, 118), (127, 112), (1084, 121)]
/-- the places of the words of arrays -/
def xaw : List (Nat × Nat) := [(20, 178), (21, 179), (22, 207)]
def xlen : Instr → Nat
  | .bipush _ | .ldc _ | .iload _ | .lload _ | .aload _ | .istore _ | .lstore _ | .astore _ | .newarray _ => 2
  | .sipush _ | .ldc_w _ | .ldc2_w _ | .iinc _ _ | .ifCond _ _ | .if_icmp _ _ | .goto _ | .ifnull _ | .ifnonnull _ | .getfield _ | .putfield _ | .invokevirtual _ | .invokespecial _ | .invokestatic _ | .new _ | .anewarray _ => 3
  | .multianewarray _ _ => 4
  | .tableswitch _ _ _ _ | .lookupswitch _ _ => 0
  | _ => 1
def xnest : String := "MagazineDepot"
def xisN : Cond → Bool
  | .methodLinkNest .. => true
  | _ => false
def xNEST : List Cond := lw_tbl.filter xisN
def xhn (p : Nat) (w : Cond) : Bool := decide (lw_tbl[p]? = some w) && xisN w
theorem xhn_in {p : Nat} {w : Cond} (h : xhn p w = true) : w ∈ xNEST := by
  simp only [xhn, Bool.and_eq_true, decide_eq_true_eq] at h
  exact List.mem_filter.mpr ⟨List.mem_of_getElem? h.1, h.2⟩
/-- a call's own word: a link, or a link to a nest mate's private member -/
def xokC (own : String) (idx : Nat) (en : xE) : Bool := if 100 ≤ en.2.2.2.1 then xhn en.2.2.2.2 (.methodLinkNest own idx (xY en.2.2.1) xnest) && decide (en.2.2.2.1 = 100 + xAr en.2.2.1) else xhw en.2.2.2.2 (.methodLink own idx (xY en.2.2.1)) && decide (en.2.2.2.1 = xAr en.2.2.1)
def xokL (own : String) (ini : Bool) (pc : Nat) (en : xE) : Bool := match en.1 with
  | .getfield idx => (match xcl[en.2.2.1]? with
    | some q => decide (en.2.2.2.1 < q.2.2) && xhw en.2.2.2.2 (.fieldLink own idx (q.2.1 en.2.2.2.1).1 (q.2.1 en.2.2.2.1).2.1 (q.2.1 en.2.2.2.1).2.2.1)
    | none => false)
  | .putfield idx => (match xcl[en.2.2.1]? with
    | some q => decide (en.2.2.2.1 < q.2.2) && xhw en.2.2.2.2 (.fieldLink own idx (q.2.1 en.2.2.2.1).1 (q.2.1 en.2.2.2.1).2.1 (q.2.1 en.2.2.2.1).2.2.1) && (!(q.2.1 en.2.2.2.1).2.2.2 || (ini && decide ((q.2.1 en.2.2.2.1).1 = own)))
    | none => false)
  | .ldc idx => xhw en.2.2.2.2 (.constant own idx (Int32.ofNat en.2.2.1))
  | .ldc_w idx => xhw en.2.2.2.2 (.constant own idx (Int32.ofNat en.2.2.1))
  | .ldc2_w idx => xhw en.2.2.2.2 (.constantLong own idx (Int64.ofNat en.2.2.1))
  | .new idx => (match xcl[en.2.2.1]?, xcw[en.2.2.1]? with
    | some q, some w => decide (en.2.2.2.1 = q.2.2) && xhw en.2.2.2.2 (.classLink own idx q.1) && xhw w.1 (.instantiable q.1 q.2.2) && xhw w.2 (.initialized q.1)
    | _, _ => false)
  | .newarray .int => decide (en.2.2.1 = 20) && xhw en.2.2.2.2 (.arrayClass .int)
  | .newarray .long => decide (en.2.2.1 = 21) && xhw en.2.2.2.2 (.arrayClass .long)
  | .newarray .boolean => decide (en.2.2.1 = 22) && xhw en.2.2.2.2 (.arrayClass .boolean)
  | .newarray _ => false
  | .anewarray idx => (decide (en.2.2.1 = 23) && xhw en.2.2.2.2 (.classLink own idx RX2)) || (decide (en.2.2.1 = 24) && xhw en.2.2.2.2 (.classLink own idx RX5))
  | .multianewarray idx d => decide (d = 2) && xhw en.2.2.2.2 (.classLink own idx "[[I")
  | .ifCond _ o => decide ((pc : Int) + o = (en.2.2.1 : Int))
  | .if_icmp _ o => decide ((pc : Int) + o = (en.2.2.1 : Int))
  | .goto o => decide ((pc : Int) + o = (en.2.2.1 : Int))
  | .ifnull o => decide ((pc : Int) + o = (en.2.2.1 : Int))
  | .ifnonnull o => decide ((pc : Int) + o = (en.2.2.1 : Int))
  | .tableswitch d lo hi offs => decide (0 ≤ (pc : Int) + d) && offs.toList.all (fun o => decide (0 ≤ (pc : Int) + o))
  | .lookupswitch d ps => (ps.toList.zip (ps.toList.drop 1)).all (fun (a, next) => a.1 < next.1) && decide (0 ≤ (pc : Int) + d) && ps.toList.all (fun o => decide (0 ≤ (pc : Int) + o.2))
  | .aaload => decide (en.2.2.1 = 23 ∨ en.2.2.1 = 24 ∨ en.2.2.1 = 25)
  | .aastore => decide ((en.2.2.1 = 23 ∧ en.2.2.2.1 = 2) ∨ (en.2.2.1 = 24 ∧ en.2.2.2.1 = 4))
  | .invokestatic idx => if en.2.2.1 = 9998 then xhw en.2.2.2.2 (.methodLink own idx arraycopyName) else if en.2.2.1 = 9996 then xhw en.2.2.2.2 (.methodLink own idx Lib.Math.min.name) else if en.2.2.1 = 9997 then xhw en.2.2.2.2 (.methodLink own idx Lib.Math.max.name) else decide (en.2.2.1 < 272) && plainName (xY en.2.2.1).cls && xSt? en.2.2.1 && xokC own idx en
  | .invokevirtual idx => decide (en.2.2.1 < 272) && plainName (xY en.2.2.1).cls && !(xSt? en.2.2.1) && !(decide ((xY en.2.2.1).name = "<init>")) && xokC own idx en && decide (en.2.2.2.1 < 100)
  | .invokespecial idx => if en.2.2.1 = 9999 then xhw en.2.2.2.2 (.methodLink own idx objectInit) else decide (en.2.2.1 < 272) && plainName (xY en.2.2.1).cls && !(xSt? en.2.2.1) && decide ((xY en.2.2.1).name = "<init>") && xokC own idx en
  | _ => true
def xokE (i : Nat) (q : Nat × xE) : Bool := decide (decode (xB i) q.1 = .ok (q.2.1, q.2.2.1)) && (decide (q.2.2.1 = xlen q.2.1) || decide (xlen q.2.1 = 0)) && xokL (xY i).cls (decide ((xY i).name = "<init>")) q.1 q.2
/-- a method's own words -/
def xokM (i : Nat) : Bool := match xms[i]? with
  | none => false
  | some q => xhw q.2.2.2.2.1 (.code q.1 q.2.1 q.2.2.1 q.2.2.2.1) && xhw q.2.2.2.2.2.1 (.initialized q.1.cls) && (if q.2.2.2.2.2.2.2.2.1 = true then xhw q.2.2.2.2.2.2.1 (.static q.1) else xhw q.2.2.2.2.2.2.1 (.instanceMethod q.1) && (decide (q.1.name = "<init>") || xhw q.2.2.2.2.2.2.2.1 (.selects q.1.cls q.1 q.1)))
    && plainName q.1.cls && decide (q.1.cls ≠ "java/lang/invoke/MethodHandle" ∧ q.1.cls ≠ "java/lang/invoke/VarHandle") && decide ((parseMethodDescriptor q.1.desc).map (fun d => d.parameters.length) = some q.2.2.2.2.2.2.2.2.2) && decide (q.2.2.1 ≤ 18)
