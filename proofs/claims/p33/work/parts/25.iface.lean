/-! ===== interfaces: none ===== -/
section IFC
variable {G : Geo} {p : Program} {l : Launch} {e e0 : Env} {R : Room} {s : State} {m : MethodId} {args : Array Value} {below : List Frame} {meth : Method} {c : Code} {Q : State → Prop} {k : Nat} {φ0 : Nat × Nat → Nat} {h0 : Hp} {res : Out × Hp} {K : KT} {C : CT} {X : XT}
variable {φ ψ : Nat × Nat → Nat} {L : LV} {st : List AV} {h : Hp} {H : Heap} {locs : List Loc} {cells slots : Nat} {ls : Array Slot} {pc a b : Nat} {ts : List Nat}
theorem sn_invokeinterface {idx cnt : Nat} (hX : Ctx G p s m meth c k) (S : SUR l G p e0 R s m args below meth c Q k φ0 h0 res K C X pc L) (I : IV G s k φ0 h0 φ ψ L st h H locs cells slots ls) (hd : decode (bT k) pc = .ok (.invokeinterface idx cnt, 5)) (hw : (k, pc, a, b, ts) ∈ ifcE) (hrk : rkT a < rkT k) (hr : F K C X (.invokeinterface idx cnt) (pc + 5) a b ts L st h = some res) : W p l e0 R s m args below meth c H locs cells slots Q (F0 m pc ls (st.map (vv φ))) := by
  cases hw
end IFC
