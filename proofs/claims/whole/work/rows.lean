section
/-- a private method of a class that the tables say can be made, by its rows of tables_1 -/
def lw_okq (q : MethodName × Nat) : Prop := (q.1.cls ≠ "java/lang/invoke/MethodHandle" ∧ q.1.cls ≠ "java/lang/invoke/VarHandle") ∧ Cond.instantiable q.1.cls q.2 ∈ tables_1 ∧ Cond.privateMethod q.1 ∈ tables_1 ∧ Cond.instanceMethod q.1 ∈ tables_1
theorem lw_p0 : lw_okq (⟨"BroadNib$Text", "findFaultIn", "(I[I)I"⟩, 2) := ⟨⟨by decide +kernel, by decide +kernel⟩, List.mem_of_getElem? (i := 25) (by decide +kernel), List.mem_of_getElem? (i := 295) (by decide +kernel), List.mem_of_getElem? (i := 296) (by decide +kernel)⟩
theorem lw_p1 : lw_okq (⟨"BroadNib$Text", "isNoNib", "(II)Z"⟩, 2) := ⟨⟨by decide +kernel, by decide +kernel⟩, List.mem_of_getElem? (i := 25) (by decide +kernel), List.mem_of_getElem? (i := 304) (by decide +kernel), List.mem_of_getElem? (i := 305) (by decide +kernel)⟩
theorem lw_p2 : lw_okq (⟨"BroadNib$Text", "layPen", "(LBroadNib$Sheet;I)V"⟩, 2) := ⟨⟨by decide +kernel, by decide +kernel⟩, List.mem_of_getElem? (i := 25) (by decide +kernel), List.mem_of_getElem? (i := 323) (by decide +kernel), List.mem_of_getElem? (i := 324) (by decide +kernel)⟩
theorem lw_p3 : lw_okq (⟨"BroadNib", "placeOfStop", "(I)I"⟩, 11) := ⟨⟨by decide +kernel, by decide +kernel⟩, List.mem_of_getElem? (i := 17) (by decide +kernel), List.mem_of_getElem? (i := 383) (by decide +kernel), List.mem_of_getElem? (i := 384) (by decide +kernel)⟩
theorem lw_p4 : lw_okq (⟨"BroadNib", "tried", "(I)LBroadNib$Pen;"⟩, 11) := ⟨⟨by decide +kernel, by decide +kernel⟩, List.mem_of_getElem? (i := 17) (by decide +kernel), List.mem_of_getElem? (i := 387) (by decide +kernel), List.mem_of_getElem? (i := 388) (by decide +kernel)⟩
theorem lw_p5 : lw_okq (⟨"BroadNib$Acts", "at", "(I)LBroadNib$Act;"⟩, 3) := ⟨⟨by decide +kernel, by decide +kernel⟩, List.mem_of_getElem? (i := 124) (by decide +kernel), List.mem_of_getElem? (i := 464) (by decide +kernel), List.mem_of_getElem? (i := 465) (by decide +kernel)⟩
theorem lw_p6 : lw_okq (⟨"BroadNib$Ways", "isLowered", "()Z"⟩, 6) := ⟨⟨by decide +kernel, by decide +kernel⟩, List.mem_of_getElem? (i := 188) (by decide +kernel), List.mem_of_getElem? (i := 542) (by decide +kernel), List.mem_of_getElem? (i := 543) (by decide +kernel)⟩
theorem lw_p7 : lw_okq (⟨"BroadNib$Ways", "costBy", "(II)I"⟩, 6) := ⟨⟨by decide +kernel, by decide +kernel⟩, List.mem_of_getElem? (i := 188) (by decide +kernel), List.mem_of_getElem? (i := 546) (by decide +kernel), List.mem_of_getElem? (i := 547) (by decide +kernel)⟩
theorem lw_p8 : lw_okq (⟨"BroadNib$Ways", "costFrom", "(I)I"⟩, 6) := ⟨⟨by decide +kernel, by decide +kernel⟩, List.mem_of_getElem? (i := 188) (by decide +kernel), List.mem_of_getElem? (i := 557) (by decide +kernel), List.mem_of_getElem? (i := 558) (by decide +kernel)⟩
theorem lw_p9 : lw_okq (⟨"BroadNib$Ways", "walkOne", "(LBroadNib$Pen;)V"⟩, 6) := ⟨⟨by decide +kernel, by decide +kernel⟩, List.mem_of_getElem? (i := 188) (by decide +kernel), List.mem_of_getElem? (i := 577) (by decide +kernel), List.mem_of_getElem? (i := 578) (by decide +kernel)⟩
theorem lw_p10 : lw_okq (⟨"BroadNib", "isDone", "(III)Z"⟩, 11) := ⟨⟨by decide +kernel, by decide +kernel⟩, List.mem_of_getElem? (i := 17) (by decide +kernel), List.mem_of_getElem? (i := 597) (by decide +kernel), List.mem_of_getElem? (i := 598) (by decide +kernel)⟩
theorem lw_p11 : lw_okq (⟨"BroadNib$Seen", "fits", "(II)Z"⟩, 4) := ⟨⟨by decide +kernel, by decide +kernel⟩, List.mem_of_getElem? (i := 166) (by decide +kernel), List.mem_of_getElem? (i := 625) (by decide +kernel), List.mem_of_getElem? (i := 626) (by decide +kernel)⟩
theorem lw_p12 : lw_okq (⟨"BroadNib", "blackerBehind", "(II)I"⟩, 11) := ⟨⟨by decide +kernel, by decide +kernel⟩, List.mem_of_getElem? (i := 17) (by decide +kernel), List.mem_of_getElem? (i := 649) (by decide +kernel), List.mem_of_getElem? (i := 650) (by decide +kernel)⟩
theorem lw_p13 : lw_okq (⟨"BroadNib", "reckonGains", "(III)V"⟩, 11) := ⟨⟨by decide +kernel, by decide +kernel⟩, List.mem_of_getElem? (i := 17) (by decide +kernel), List.mem_of_getElem? (i := 668) (by decide +kernel), List.mem_of_getElem? (i := 669) (by decide +kernel)⟩
theorem lw_p14 : lw_okq (⟨"BroadNib", "isRest", "(I)Z"⟩, 11) := ⟨⟨by decide +kernel, by decide +kernel⟩, List.mem_of_getElem? (i := 17) (by decide +kernel), List.mem_of_getElem? (i := 677) (by decide +kernel), List.mem_of_getElem? (i := 678) (by decide +kernel)⟩
theorem lw_p15 : lw_okq (⟨"BroadNib", "passYear", "(I)V"⟩, 11) := ⟨⟨by decide +kernel, by decide +kernel⟩, List.mem_of_getElem? (i := 17) (by decide +kernel), List.mem_of_getElem? (i := 701) (by decide +kernel), List.mem_of_getElem? (i := 702) (by decide +kernel)⟩
def lw_privs_1 : List (MethodName × Nat) := [(⟨"BroadNib$Text", "findFaultIn", "(I[I)I"⟩, 2), (⟨"BroadNib$Text", "isNoNib", "(II)Z"⟩, 2), (⟨"BroadNib$Text", "layPen", "(LBroadNib$Sheet;I)V"⟩, 2), (⟨"BroadNib", "placeOfStop", "(I)I"⟩, 11), (⟨"BroadNib", "tried", "(I)LBroadNib$Pen;"⟩, 11), (⟨"BroadNib$Acts", "at", "(I)LBroadNib$Act;"⟩, 3), (⟨"BroadNib$Ways", "isLowered", "()Z"⟩, 6), (⟨"BroadNib$Ways", "costBy", "(II)I"⟩, 6), (⟨"BroadNib$Ways", "costFrom", "(I)I"⟩, 6), (⟨"BroadNib$Ways", "walkOne", "(LBroadNib$Pen;)V"⟩, 6), (⟨"BroadNib", "isDone", "(III)Z"⟩, 11), (⟨"BroadNib$Seen", "fits", "(II)Z"⟩, 4), (⟨"BroadNib", "blackerBehind", "(II)I"⟩, 11), (⟨"BroadNib", "reckonGains", "(III)V"⟩, 11), (⟨"BroadNib", "isRest", "(I)Z"⟩, 11), (⟨"BroadNib", "passYear", "(I)V"⟩, 11)]
theorem lw_r1 : ∀ q ∈ lw_privs_1, lw_okq q := List.forall_mem_cons.mpr ⟨lw_p0, List.forall_mem_cons.mpr ⟨lw_p1, List.forall_mem_cons.mpr ⟨lw_p2, List.forall_mem_cons.mpr ⟨lw_p3, List.forall_mem_cons.mpr ⟨lw_p4, List.forall_mem_cons.mpr ⟨lw_p5, List.forall_mem_cons.mpr ⟨lw_p6, List.forall_mem_cons.mpr ⟨lw_p7, List.forall_mem_cons.mpr ⟨lw_p8, List.forall_mem_cons.mpr ⟨lw_p9, List.forall_mem_cons.mpr ⟨lw_p10, List.forall_mem_cons.mpr ⟨lw_p11, List.forall_mem_cons.mpr ⟨lw_p12, List.forall_mem_cons.mpr ⟨lw_p13, List.forall_mem_cons.mpr ⟨lw_p14, List.forall_mem_cons.mpr ⟨lw_p15, fun _ h => absurd h List.not_mem_nil⟩⟩⟩⟩⟩⟩⟩⟩⟩⟩⟩⟩⟩⟩⟩⟩
theorem lw_p16 : lw_okq (⟨"BroadNibModel", "readText", "()I"⟩, 25) := ⟨⟨by decide +kernel, by decide +kernel⟩, List.mem_of_getElem? (i := 730) (by decide +kernel), List.mem_of_getElem? (i := 829) (by decide +kernel), List.mem_of_getElem? (i := 830) (by decide +kernel)⟩
theorem lw_p17 : lw_okq (⟨"BroadNibModel", "readPart", "(I)V"⟩, 25) := ⟨⟨by decide +kernel, by decide +kernel⟩, List.mem_of_getElem? (i := 730) (by decide +kernel), List.mem_of_getElem? (i := 833) (by decide +kernel), List.mem_of_getElem? (i := 834) (by decide +kernel)⟩
theorem lw_p18 : lw_okq (⟨"BroadNibModel", "figureOf", "(II)I"⟩, 25) := ⟨⟨by decide +kernel, by decide +kernel⟩, List.mem_of_getElem? (i := 730) (by decide +kernel), List.mem_of_getElem? (i := 837) (by decide +kernel), List.mem_of_getElem? (i := 838) (by decide +kernel)⟩
theorem lw_p19 : lw_okq (⟨"BroadNibModel", "isPen", "(I)Z"⟩, 25) := ⟨⟨by decide +kernel, by decide +kernel⟩, List.mem_of_getElem? (i := 730) (by decide +kernel), List.mem_of_getElem? (i := 859) (by decide +kernel), List.mem_of_getElem? (i := 860) (by decide +kernel)⟩
theorem lw_p20 : lw_okq (⟨"BroadNibModel", "nibOf", "(I)I"⟩, 25) := ⟨⟨by decide +kernel, by decide +kernel⟩, List.mem_of_getElem? (i := 730) (by decide +kernel), List.mem_of_getElem? (i := 863) (by decide +kernel), List.mem_of_getElem? (i := 864) (by decide +kernel)⟩
theorem lw_p21 : lw_okq (⟨"BroadNibModel", "stopsAt", "(I)I"⟩, 25) := ⟨⟨by decide +kernel, by decide +kernel⟩, List.mem_of_getElem? (i := 730) (by decide +kernel), List.mem_of_getElem? (i := 867) (by decide +kernel), List.mem_of_getElem? (i := 868) (by decide +kernel)⟩
theorem lw_p22 : lw_okq (⟨"BroadNibModel", "layTrial", "()V"⟩, 25) := ⟨⟨by decide +kernel, by decide +kernel⟩, List.mem_of_getElem? (i := 730) (by decide +kernel), List.mem_of_getElem? (i := 871) (by decide +kernel), List.mem_of_getElem? (i := 872) (by decide +kernel)⟩
theorem lw_p23 : lw_okq (⟨"BroadNibModel", "writeOn", "(IIII)I"⟩, 25) := ⟨⟨by decide +kernel, by decide +kernel⟩, List.mem_of_getElem? (i := 730) (by decide +kernel), List.mem_of_getElem? (i := 875) (by decide +kernel), List.mem_of_getElem? (i := 876) (by decide +kernel)⟩
theorem lw_p24 : lw_okq (⟨"BroadNibModel", "canStep", "(III)Z"⟩, 25) := ⟨⟨by decide +kernel, by decide +kernel⟩, List.mem_of_getElem? (i := 730) (by decide +kernel), List.mem_of_getElem? (i := 882) (by decide +kernel), List.mem_of_getElem? (i := 883) (by decide +kernel)⟩
theorem lw_p25 : lw_okq (⟨"BroadNibModel", "stepOn", "(III)I"⟩, 25) := ⟨⟨by decide +kernel, by decide +kernel⟩, List.mem_of_getElem? (i := 730) (by decide +kernel), List.mem_of_getElem? (i := 896) (by decide +kernel), List.mem_of_getElem? (i := 897) (by decide +kernel)⟩
theorem lw_p26 : lw_okq (⟨"BroadNibModel", "thickOn", "(III)I"⟩, 25) := ⟨⟨by decide +kernel, by decide +kernel⟩, List.mem_of_getElem? (i := 730) (by decide +kernel), List.mem_of_getElem? (i := 900) (by decide +kernel), List.mem_of_getElem? (i := 901) (by decide +kernel)⟩
theorem lw_p27 : lw_okq (⟨"BroadNibModel", "keepAct", "()V"⟩, 25) := ⟨⟨by decide +kernel, by decide +kernel⟩, List.mem_of_getElem? (i := 730) (by decide +kernel), List.mem_of_getElem? (i := 920) (by decide +kernel), List.mem_of_getElem? (i := 921) (by decide +kernel)⟩
theorem lw_p28 : lw_okq (⟨"BroadNibModel", "turnOn", "(II)V"⟩, 25) := ⟨⟨by decide +kernel, by decide +kernel⟩, List.mem_of_getElem? (i := 730) (by decide +kernel), List.mem_of_getElem? (i := 936) (by decide +kernel), List.mem_of_getElem? (i := 937) (by decide +kernel)⟩
theorem lw_p29 : lw_okq (⟨"BroadNibModel", "findFar", "(II)V"⟩, 25) := ⟨⟨by decide +kernel, by decide +kernel⟩, List.mem_of_getElem? (i := 730) (by decide +kernel), List.mem_of_getElem? (i := 957) (by decide +kernel), List.mem_of_getElem? (i := 958) (by decide +kernel)⟩
theorem lw_p30 : lw_okq (⟨"BroadNibModel", "firstWay", "(I)I"⟩, 25) := ⟨⟨by decide +kernel, by decide +kernel⟩, List.mem_of_getElem? (i := 730) (by decide +kernel), List.mem_of_getElem? (i := 962) (by decide +kernel), List.mem_of_getElem? (i := 963) (by decide +kernel)⟩
theorem lw_p31 : lw_okq (⟨"BroadNibModel", "ringBy", "(III)I"⟩, 25) := ⟨⟨by decide +kernel, by decide +kernel⟩, List.mem_of_getElem? (i := 730) (by decide +kernel), List.mem_of_getElem? (i := 970) (by decide +kernel), List.mem_of_getElem? (i := 971) (by decide +kernel)⟩
def lw_privs_2 : List (MethodName × Nat) := [(⟨"BroadNibModel", "readText", "()I"⟩, 25), (⟨"BroadNibModel", "readPart", "(I)V"⟩, 25), (⟨"BroadNibModel", "figureOf", "(II)I"⟩, 25), (⟨"BroadNibModel", "isPen", "(I)Z"⟩, 25), (⟨"BroadNibModel", "nibOf", "(I)I"⟩, 25), (⟨"BroadNibModel", "stopsAt", "(I)I"⟩, 25), (⟨"BroadNibModel", "layTrial", "()V"⟩, 25), (⟨"BroadNibModel", "writeOn", "(IIII)I"⟩, 25), (⟨"BroadNibModel", "canStep", "(III)Z"⟩, 25), (⟨"BroadNibModel", "stepOn", "(III)I"⟩, 25), (⟨"BroadNibModel", "thickOn", "(III)I"⟩, 25), (⟨"BroadNibModel", "keepAct", "()V"⟩, 25), (⟨"BroadNibModel", "turnOn", "(II)V"⟩, 25), (⟨"BroadNibModel", "findFar", "(II)V"⟩, 25), (⟨"BroadNibModel", "firstWay", "(I)I"⟩, 25), (⟨"BroadNibModel", "ringBy", "(III)I"⟩, 25)]
theorem lw_r2 : ∀ q ∈ lw_privs_2, lw_okq q := List.forall_mem_cons.mpr ⟨lw_p16, List.forall_mem_cons.mpr ⟨lw_p17, List.forall_mem_cons.mpr ⟨lw_p18, List.forall_mem_cons.mpr ⟨lw_p19, List.forall_mem_cons.mpr ⟨lw_p20, List.forall_mem_cons.mpr ⟨lw_p21, List.forall_mem_cons.mpr ⟨lw_p22, List.forall_mem_cons.mpr ⟨lw_p23, List.forall_mem_cons.mpr ⟨lw_p24, List.forall_mem_cons.mpr ⟨lw_p25, List.forall_mem_cons.mpr ⟨lw_p26, List.forall_mem_cons.mpr ⟨lw_p27, List.forall_mem_cons.mpr ⟨lw_p28, List.forall_mem_cons.mpr ⟨lw_p29, List.forall_mem_cons.mpr ⟨lw_p30, List.forall_mem_cons.mpr ⟨lw_p31, fun _ h => absurd h List.not_mem_nil⟩⟩⟩⟩⟩⟩⟩⟩⟩⟩⟩⟩⟩⟩⟩⟩
theorem lw_p32 : lw_okq (⟨"BroadNibModel", "tryThing", "(III)Z"⟩, 25) := ⟨⟨by decide +kernel, by decide +kernel⟩, List.mem_of_getElem? (i := 730) (by decide +kernel), List.mem_of_getElem? (i := 982) (by decide +kernel), List.mem_of_getElem? (i := 983) (by decide +kernel)⟩
theorem lw_p33 : lw_okq (⟨"BroadNibModel", "writesAll", "(I)Z"⟩, 25) := ⟨⟨by decide +kernel, by decide +kernel⟩, List.mem_of_getElem? (i := 730) (by decide +kernel), List.mem_of_getElem? (i := 986) (by decide +kernel), List.mem_of_getElem? (i := 987) (by decide +kernel)⟩
theorem lw_p34 : lw_okq (⟨"BroadNibModel", "blackBy", "(I)I"⟩, 25) := ⟨⟨by decide +kernel, by decide +kernel⟩, List.mem_of_getElem? (i := 730) (by decide +kernel), List.mem_of_getElem? (i := 1013) (by decide +kernel), List.mem_of_getElem? (i := 1014) (by decide +kernel)⟩
theorem lw_p35 : lw_okq (⟨"BroadNibModel", "blackOn", "(I)I"⟩, 25) := ⟨⟨by decide +kernel, by decide +kernel⟩, List.mem_of_getElem? (i := 730) (by decide +kernel), List.mem_of_getElem? (i := 1017) (by decide +kernel), List.mem_of_getElem? (i := 1018) (by decide +kernel)⟩
theorem lw_p36 : lw_okq (⟨"BroadNibModel", "isRest", "(IIII)Z"⟩, 25) := ⟨⟨by decide +kernel, by decide +kernel⟩, List.mem_of_getElem? (i := 730) (by decide +kernel), List.mem_of_getElem? (i := 1028) (by decide +kernel), List.mem_of_getElem? (i := 1029) (by decide +kernel)⟩
theorem lw_p37 : lw_okq (⟨"BroadNibModel", "gain", "(IIIII)I"⟩, 25) := ⟨⟨by decide +kernel, by decide +kernel⟩, List.mem_of_getElem? (i := 730) (by decide +kernel), List.mem_of_getElem? (i := 1032) (by decide +kernel), List.mem_of_getElem? (i := 1033) (by decide +kernel)⟩
theorem lw_p38 : lw_okq (⟨"BroadNibModel", "inkOn", "(I)I"⟩, 25) := ⟨⟨by decide +kernel, by decide +kernel⟩, List.mem_of_getElem? (i := 730) (by decide +kernel), List.mem_of_getElem? (i := 1053) (by decide +kernel), List.mem_of_getElem? (i := 1054) (by decide +kernel)⟩
theorem lw_p39 : lw_okq (⟨"BroadNibModel", "fullPens", "()I"⟩, 25) := ⟨⟨by decide +kernel, by decide +kernel⟩, List.mem_of_getElem? (i := 730) (by decide +kernel), List.mem_of_getElem? (i := 1069) (by decide +kernel), List.mem_of_getElem? (i := 1070) (by decide +kernel)⟩
def lw_privs_3 : List (MethodName × Nat) := [(⟨"BroadNibModel", "tryThing", "(III)Z"⟩, 25), (⟨"BroadNibModel", "writesAll", "(I)Z"⟩, 25), (⟨"BroadNibModel", "blackBy", "(I)I"⟩, 25), (⟨"BroadNibModel", "blackOn", "(I)I"⟩, 25), (⟨"BroadNibModel", "isRest", "(IIII)Z"⟩, 25), (⟨"BroadNibModel", "gain", "(IIIII)I"⟩, 25), (⟨"BroadNibModel", "inkOn", "(I)I"⟩, 25), (⟨"BroadNibModel", "fullPens", "()I"⟩, 25)]
theorem lw_r3 : ∀ q ∈ lw_privs_3, lw_okq q := List.forall_mem_cons.mpr ⟨lw_p32, List.forall_mem_cons.mpr ⟨lw_p33, List.forall_mem_cons.mpr ⟨lw_p34, List.forall_mem_cons.mpr ⟨lw_p35, List.forall_mem_cons.mpr ⟨lw_p36, List.forall_mem_cons.mpr ⟨lw_p37, List.forall_mem_cons.mpr ⟨lw_p38, List.forall_mem_cons.mpr ⟨lw_p39, fun _ h => absurd h List.not_mem_nil⟩⟩⟩⟩⟩⟩⟩⟩
def lw_privs : List (MethodName × Nat) := lw_privs_1 ++ (lw_privs_2 ++ (lw_privs_3))
def lw_tbl : List Cond := k2_sels lw_privs ++ tables_1
theorem lw_privs_ok : ∀ q ∈ lw_privs, lw_okq q := by
  show ∀ q ∈ lw_privs_1 ++ (lw_privs_2 ++ (lw_privs_3)), lw_okq q
  exact List.forall_mem_append.mpr ⟨lw_r1, List.forall_mem_append.mpr ⟨lw_r2, lw_r3⟩⟩
end
section
def RX0 : String := "BroadNib$Act"
def TX0 : u_T := fun k => match k with
  | 0 => ("BroadNib$Act", "penBefore", "LBroadNib$Pen;", true)
  | 1 => ("BroadNib$Act", "pen", "I", false)
  | 2 => ("BroadNib$Act", "dot", "I", false)
  | 3 => ("BroadNib$Act", "inkBefore", "I", false)
  | _ => ("BroadNib$Act", "timeBefore", "I", false)
def tyX0 : Nat → FieldType := fun k => match k with
  | 0 => .object "BroadNib$Pen"
  | 1 => .int
  | 2 => .int
  | 3 => .int
  | _ => .int
abbrev wsX00 : List Cond := u_ws RX0 TX0 5
theorem nmX0 : ∀ a, a < 5 → ∀ b, b < 5 → a ≠ b → (TX0 a).2.1 ≠ (TX0 b).2.1 := by decide +kernel
theorem tyX0_ok : ∀ k, k < 5 → parseFieldDescriptor (TX0 k).2.2.1 = some (tyX0 k) := by decide +kernel
abbrev cX0_init : ByteArray := prog_2_method_1_code
def yX0_init : MethodName := ⟨RX0, "<init>", "()V"⟩
abbrev cX0_note : ByteArray := prog_2_method_2_code
def yX0_note : MethodName := ⟨RX0, "note", "(LBroadNib$Sheet;II)V"⟩
abbrev cX0_takeBack : ByteArray := prog_2_method_3_code
def yX0_takeBack : MethodName := ⟨RX0, "takeBack", "(LBroadNib$Sheet;)V"⟩
def RX1 : String := "BroadNib$Acts"
def TX1 : u_T := fun k => match k with
  | 0 => ("BroadNib$Acts", "row", "[LBroadNib$Act;", true)
  | 1 => ("BroadNib$Acts", "first", "I", false)
  | _ => ("BroadNib$Acts", "count", "I", false)
def tyX1 : Nat → FieldType := fun k => match k with
  | 0 => .array (.object "BroadNib$Act")
  | 1 => .int
  | _ => .int
abbrev wsX10 : List Cond := u_ws RX1 TX1 3
theorem nmX1 : ∀ a, a < 3 → ∀ b, b < 3 → a ≠ b → (TX1 a).2.1 ≠ (TX1 b).2.1 := by decide +kernel
theorem tyX1_ok : ∀ k, k < 3 → parseFieldDescriptor (TX1 k).2.2.1 = some (tyX1 k) := by decide +kernel
abbrev cX1_init : ByteArray := prog_3_method_1_code
def yX1_init : MethodName := ⟨RX1, "<init>", "()V"⟩
abbrev cX1_at : ByteArray := prog_3_method_2_code
def yX1_at : MethodName := ⟨RX1, "at", "(I)LBroadNib$Act;"⟩
abbrev cX1_note : ByteArray := prog_3_method_3_code
def yX1_note : MethodName := ⟨RX1, "note", "(LBroadNib$Sheet;II)V"⟩
abbrev cX1_takeBackLast : ByteArray := prog_3_method_4_code
def yX1_takeBackLast : MethodName := ⟨RX1, "takeBackLast", "(LBroadNib$Sheet;)V"⟩
abbrev cX1_forgetAll : ByteArray := prog_3_method_5_code
def yX1_forgetAll : MethodName := ⟨RX1, "forgetAll", "()V"⟩
def RX2 : String := "BroadNib$Pen"
def TX2 : u_T := fun k => match k with
  | 0 => ("BroadNib$Pen", "dot", "I", false)
  | 1 => ("BroadNib$Pen", "kind", "I", false)
  | 2 => ("BroadNib$Pen", "a", "I", false)
  | 3 => ("BroadNib$Pen", "b", "I", false)
  | 4 => ("BroadNib$Pen", "ink", "I", false)
  | 5 => ("BroadNib$Pen", "full", "I", false)
  | _ => ("BroadNib$Pen", "down", "Z", false)
def tyX2 : Nat → FieldType := fun k => match k with
  | 0 => .int
  | 1 => .int
  | 2 => .int
  | 3 => .int
  | 4 => .int
  | 5 => .int
  | _ => .boolean
abbrev wsX20 : List Cond := u_ws RX2 TX2 7
theorem nmX2 : ∀ a, a < 7 → ∀ b, b < 7 → a ≠ b → (TX2 a).2.1 ≠ (TX2 b).2.1 := by decide +kernel
theorem tyX2_ok : ∀ k, k < 7 → parseFieldDescriptor (TX2 k).2.2.1 = some (tyX2 k) := by decide +kernel
abbrev cX2_init : ByteArray := prog_4_method_1_code
def yX2_init : MethodName := ⟨RX2, "<init>", "()V"⟩
abbrev cX2_copy : ByteArray := prog_4_method_2_code
def yX2_copy : MethodName := ⟨RX2, "copy", "(LBroadNib$Pen;)V"⟩
abbrev cX2_isFull : ByteArray := prog_4_method_3_code
def yX2_isFull : MethodName := ⟨RX2, "isFull", "()Z"⟩
abbrev cX2_flip : ByteArray := prog_4_method_4_code
def yX2_flip : MethodName := ⟨RX2, "flip", "()V"⟩
abbrev cX2_refill : ByteArray := prog_4_method_5_code
def yX2_refill : MethodName := ⟨RX2, "refill", "()I"⟩
abbrev cX2_quarter : ByteArray := prog_4_method_6_code
def yX2_quarter : MethodName := ⟨RX2, "quarter", "()V"⟩
abbrev cX2_toldNib : ByteArray := prog_4_method_7_code
def yX2_toldNib : MethodName := ⟨RX2, "toldNib", "()I"⟩
abbrev cX2_across : ByteArray := prog_4_method_8_code
def yX2_across : MethodName := ⟨RX2, "across", "(I)I"⟩
abbrev cX2_lays : ByteArray := prog_4_method_9_code
def yX2_lays : MethodName := ⟨RX2, "lays", "(II)I"⟩
def RX3 : String := "BroadNib$Seen"
def TX3 : u_T := fun k => match k with
  | 0 => ("BroadNib$Seen", "directions", "[I", true)
  | 1 => ("BroadNib$Seen", "thicks", "[I", true)
  | 2 => ("BroadNib$Seen", "unknown", "LBroadNib$Pen;", true)
  | _ => ("BroadNib$Seen", "count", "I", false)
def tyX3 : Nat → FieldType := fun k => match k with
  | 0 => .array .int
  | 1 => .array .int
  | 2 => .object "BroadNib$Pen"
  | _ => .int
abbrev wsX30 : List Cond := u_ws RX3 TX3 4
theorem nmX3 : ∀ a, a < 4 → ∀ b, b < 4 → a ≠ b → (TX3 a).2.1 ≠ (TX3 b).2.1 := by decide +kernel
theorem tyX3_ok : ∀ k, k < 4 → parseFieldDescriptor (TX3 k).2.2.1 = some (tyX3 k) := by decide +kernel
abbrev cX3_init : ByteArray := prog_5_method_1_code
def yX3_init : MethodName := ⟨RX3, "<init>", "()V"⟩
abbrev cX3_add : ByteArray := prog_5_method_2_code
def yX3_add : MethodName := ⟨RX3, "add", "(II)Z"⟩
abbrev cX3_countNibs : ByteArray := prog_5_method_3_code
def yX3_countNibs : MethodName := ⟨RX3, "countNibs", "()I"⟩
abbrev cX3_firstNib : ByteArray := prog_5_method_4_code
def yX3_firstNib : MethodName := ⟨RX3, "firstNib", "()I"⟩
abbrev cX3_fits : ByteArray := prog_5_method_5_code
def yX3_fits : MethodName := ⟨RX3, "fits", "(II)Z"⟩
def RX4 : String := "BroadNib$Sheet"
def TX4 : u_T := fun k => match k with
  | 0 => ("BroadNib$Sheet", "pens", "[LBroadNib$Pen;", true)
  | 1 => ("BroadNib$Sheet", "ink", "[I", true)
  | 2 => ("BroadNib$Sheet", "penCount", "I", false)
  | _ => ("BroadNib$Sheet", "time", "I", false)
def tyX4 : Nat → FieldType := fun k => match k with
  | 0 => .array (.object "BroadNib$Pen")
  | 1 => .array .int
  | 2 => .int
  | _ => .int
abbrev wsX40 : List Cond := u_ws RX4 TX4 4
theorem nmX4 : ∀ a, a < 4 → ∀ b, b < 4 → a ≠ b → (TX4 a).2.1 ≠ (TX4 b).2.1 := by decide +kernel
theorem tyX4_ok : ∀ k, k < 4 → parseFieldDescriptor (TX4 k).2.2.1 = some (tyX4 k) := by decide +kernel
abbrev cX4_init : ByteArray := prog_6_method_1_code
def yX4_init : MethodName := ⟨RX4, "<init>", "()V"⟩
abbrev cX4_clear : ByteArray := prog_6_method_2_code
def yX4_clear : MethodName := ⟨RX4, "clear", "()V"⟩
abbrev cX4_copy : ByteArray := prog_6_method_3_code
def yX4_copy : MethodName := ⟨RX4, "copy", "(LBroadNib$Sheet;)V"⟩
abbrev cX4_addPen : ByteArray := prog_6_method_4_code
def yX4_addPen : MethodName := ⟨RX4, "addPen", "()LBroadNib$Pen;"⟩
abbrev cX4_find : ByteArray := prog_6_method_5_code
def yX4_find : MethodName := ⟨RX4, "find", "(I)LBroadNib$Pen;"⟩
abbrev cX4_inkOf : ByteArray := prog_6_method_6_code
def yX4_inkOf : MethodName := ⟨RX4, "inkOf", "(I)I"⟩
abbrev cX4_inkOn : ByteArray := prog_6_method_7_code
def yX4_inkOn : MethodName := ⟨RX4, "inkOn", "(I)I"⟩
abbrev cX4_setInk : ByteArray := prog_6_method_8_code
def yX4_setInk : MethodName := ⟨RX4, "setInk", "(II)V"⟩
abbrev cX4_clean : ByteArray := prog_6_method_9_code
def yX4_clean : MethodName := ⟨RX4, "clean", "(I)I"⟩
abbrev cX4_move : ByteArray := prog_6_method_10_code
def yX4_move : MethodName := ⟨RX4, "move", "(LBroadNib$Pen;I)I"⟩
abbrev cX4_follow : ByteArray := prog_6_method_11_code
def yX4_follow : MethodName := ⟨RX4, "follow", "(LBroadNib$Pen;LBroadNib$Word;I)I"⟩
abbrev cX4_isBlack : ByteArray := prog_6_method_12_code
def yX4_isBlack : MethodName := ⟨RX4, "isBlack", "(I)Z"⟩
abbrev cX4_inkOnAll : ByteArray := prog_6_method_13_code
def yX4_inkOnAll : MethodName := ⟨RX4, "inkOnAll", "()I"⟩
abbrev cX4_blackBits : ByteArray := prog_6_method_14_code
def yX4_blackBits : MethodName := ⟨RX4, "blackBits", "()I"⟩
abbrev cX4_downBits : ByteArray := prog_6_method_15_code
def yX4_downBits : MethodName := ⟨RX4, "downBits", "()I"⟩
abbrev cX4_fullBits : ByteArray := prog_6_method_16_code
def yX4_fullBits : MethodName := ⟨RX4, "fullBits", "()I"⟩
def RX5 : String := "BroadNib$Slot"
def TX5 : u_T := fun k => match k with
  | 0 => ("BroadNib$Slot", "kept", "LBroadNib$Sheet;", true)
  | _ => ("BroadNib$Slot", "used", "Z", false)
def tyX5 : Nat → FieldType := fun k => match k with
  | 0 => .object "BroadNib$Sheet"
  | _ => .boolean
abbrev wsX50 : List Cond := u_ws RX5 TX5 2
theorem nmX5 : ∀ a, a < 2 → ∀ b, b < 2 → a ≠ b → (TX5 a).2.1 ≠ (TX5 b).2.1 := by decide +kernel
theorem tyX5_ok : ∀ k, k < 2 → parseFieldDescriptor (TX5 k).2.2.1 = some (tyX5 k) := by decide +kernel
abbrev cX5_init : ByteArray := prog_7_method_1_code
def yX5_init : MethodName := ⟨RX5, "<init>", "()V"⟩
def RX6 : String := "BroadNib$Text"
def TX6 : u_T := fun k => match k with
  | 0 => ("BroadNib$Text", "letters", "[I", true)
  | _ => ("BroadNib$Text", "length", "I", false)
def tyX6 : Nat → FieldType := fun k => match k with
  | 0 => .array .int
  | _ => .int
abbrev wsX60 : List Cond := u_ws RX6 TX6 2
theorem nmX6 : ∀ a, a < 2 → ∀ b, b < 2 → a ≠ b → (TX6 a).2.1 ≠ (TX6 b).2.1 := by decide +kernel
theorem tyX6_ok : ∀ k, k < 2 → parseFieldDescriptor (TX6 k).2.2.1 = some (tyX6 k) := by decide +kernel
abbrev cX6_init : ByteArray := prog_8_method_1_code
def yX6_init : MethodName := ⟨RX6, "<init>", "()V"⟩
abbrev cX6_add : ByteArray := prog_8_method_2_code
def yX6_add : MethodName := ⟨RX6, "add", "(I)Z"⟩
abbrev cX6_letterAt : ByteArray := prog_8_method_3_code
def yX6_letterAt : MethodName := ⟨RX6, "letterAt", "(I)I"⟩
abbrev cX6_figureAt : ByteArray := prog_8_method_4_code
def yX6_figureAt : MethodName := ⟨RX6, "figureAt", "(I)I"⟩
abbrev cX6_findFault : ByteArray := prog_8_method_5_code
def yX6_findFault : MethodName := ⟨RX6, "findFault", "()I"⟩
abbrev cX6_findFaultIn : ByteArray := prog_8_method_6_code
def yX6_findFaultIn : MethodName := ⟨RX6, "findFaultIn", "(I[I)I"⟩
abbrev cX6_isNoNib : ByteArray := prog_8_method_7_code
def yX6_isNoNib : MethodName := ⟨RX6, "isNoNib", "(II)Z"⟩
abbrev cX6_layOut : ByteArray := prog_8_method_8_code
def yX6_layOut : MethodName := ⟨RX6, "layOut", "(LBroadNib$Sheet;)V"⟩
abbrev cX6_layPen : ByteArray := prog_8_method_9_code
def yX6_layPen : MethodName := ⟨RX6, "layPen", "(LBroadNib$Sheet;I)V"⟩
def RX7 : String := "BroadNib$Ways"
def TX7 : u_T := fun k => match k with
  | 0 => ("BroadNib$Ways", "weights", "[I", true)
  | 1 => ("BroadNib$Ways", "costs", "[I", true)
  | 2 => ("BroadNib$Ways", "rows", "[I", true)
  | 3 => ("BroadNib$Ways", "rowsThen", "[I", true)
  | 4 => ("BroadNib$Ways", "lowest", "[I", true)
  | _ => ("BroadNib$Ways", "lowestThen", "[I", true)
def tyX7 : Nat → FieldType := fun k => match k with
  | 0 => .array .int
  | 1 => .array .int
  | 2 => .array .int
  | 3 => .array .int
  | 4 => .array .int
  | _ => .array .int
abbrev wsX70 : List Cond := u_ws RX7 TX7 6
theorem nmX7 : ∀ a, a < 6 → ∀ b, b < 6 → a ≠ b → (TX7 a).2.1 ≠ (TX7 b).2.1 := by decide +kernel
theorem tyX7_ok : ∀ k, k < 6 → parseFieldDescriptor (TX7 k).2.2.1 = some (tyX7 k) := by decide +kernel
abbrev cX7_init : ByteArray := prog_9_method_1_code
def yX7_init : MethodName := ⟨RX7, "<init>", "()V"⟩
abbrev cX7_reckonTo : ByteArray := prog_9_method_2_code
def yX7_reckonTo : MethodName := ⟨RX7, "reckonTo", "(ILBroadNib$Pen;)V"⟩
abbrev cX7_isLowered : ByteArray := prog_9_method_3_code
def yX7_isLowered : MethodName := ⟨RX7, "isLowered", "()Z"⟩
abbrev cX7_costBy : ByteArray := prog_9_method_4_code
def yX7_costBy : MethodName := ⟨RX7, "costBy", "(II)I"⟩
abbrev cX7_costFrom : ByteArray := prog_9_method_5_code
def yX7_costFrom : MethodName := ⟨RX7, "costFrom", "(I)I"⟩
abbrev cX7_inkFrom : ByteArray := prog_9_method_6_code
def yX7_inkFrom : MethodName := ⟨RX7, "inkFrom", "(I)I"⟩
abbrev cX7_stepsFrom : ByteArray := prog_9_method_7_code
def yX7_stepsFrom : MethodName := ⟨RX7, "stepsFrom", "(I)I"⟩
abbrev cX7_directionFrom : ByteArray := prog_9_method_8_code
def yX7_directionFrom : MethodName := ⟨RX7, "directionFrom", "(I)I"⟩
abbrev cX7_walk : ByteArray := prog_9_method_9_code
def yX7_walk : MethodName := ⟨RX7, "walk", "(LBroadNib$Pen;I)V"⟩
abbrev cX7_walkOne : ByteArray := prog_9_method_10_code
def yX7_walkOne : MethodName := ⟨RX7, "walkOne", "(LBroadNib$Pen;)V"⟩
abbrev cX7_rowsTo : ByteArray := prog_9_method_11_code
def yX7_rowsTo : MethodName := ⟨RX7, "rowsTo", "(I)I"⟩
abbrev cX7_lowestTo : ByteArray := prog_9_method_12_code
def yX7_lowestTo : MethodName := ⟨RX7, "lowestTo", "(I)I"⟩
def RX8 : String := "BroadNib$Word"
def TX8 : u_T := fun k => match k with
  | 0 => ("BroadNib$Word", "directions", "[I", true)
  | _ => ("BroadNib$Word", "length", "I", false)
def tyX8 : Nat → FieldType := fun k => match k with
  | 0 => .array .int
  | _ => .int
abbrev wsX80 : List Cond := u_ws RX8 TX8 2
theorem nmX8 : ∀ a, a < 2 → ∀ b, b < 2 → a ≠ b → (TX8 a).2.1 ≠ (TX8 b).2.1 := by decide +kernel
theorem tyX8_ok : ∀ k, k < 2 → parseFieldDescriptor (TX8 k).2.2.1 = some (tyX8 k) := by decide +kernel
abbrev cX8_init : ByteArray := prog_10_method_1_code
def yX8_init : MethodName := ⟨RX8, "<init>", "()V"⟩
abbrev cX8_isOfDirections : ByteArray := prog_10_method_2_code
def yX8_isOfDirections : MethodName := ⟨RX8, "isOfDirections", "(IJ)Z"⟩
abbrev cX8_tell : ByteArray := prog_10_method_3_code
def yX8_tell : MethodName := ⟨RX8, "tell", "(IJ)V"⟩
abbrev cX8_at : ByteArray := prog_10_method_4_code
def yX8_at : MethodName := ⟨RX8, "at", "(I)I"⟩
def RX9 : String := "BroadNib"
def TX9 : u_T := fun k => match k with
  | 0 => ("BroadNib", "text", "LBroadNib$Text;", true)
  | 1 => ("BroadNib", "word", "LBroadNib$Word;", true)
  | 2 => ("BroadNib", "sheet", "LBroadNib$Sheet;", true)
  | 3 => ("BroadNib", "trial", "LBroadNib$Sheet;", true)
  | 4 => ("BroadNib", "acts", "LBroadNib$Acts;", true)
  | 5 => ("BroadNib", "seen", "LBroadNib$Seen;", true)
  | 6 => ("BroadNib", "ways", "LBroadNib$Ways;", true)
  | 7 => ("BroadNib", "slots", "[LBroadNib$Slot;", true)
  | 8 => ("BroadNib", "gainOfOne", "[I", true)
  | 9 => ("BroadNib", "gainOfOther", "[I", true)
  | _ => ("BroadNib", "seed", "J", false)
def tyX9 : Nat → FieldType := fun k => match k with
  | 0 => .object "BroadNib$Text"
  | 1 => .object "BroadNib$Word"
  | 2 => .object "BroadNib$Sheet"
  | 3 => .object "BroadNib$Sheet"
  | 4 => .object "BroadNib$Acts"
  | 5 => .object "BroadNib$Seen"
  | 6 => .object "BroadNib$Ways"
  | 7 => .array (.object "BroadNib$Slot")
  | 8 => .array .int
  | 9 => .array .int
  | _ => .long
abbrev wsX90 : List Cond := u_ws RX9 TX9 11
theorem nmX9 : ∀ a, a < 11 → ∀ b, b < 11 → a ≠ b → (TX9 a).2.1 ≠ (TX9 b).2.1 := by decide +kernel
theorem tyX9_ok : ∀ k, k < 11 → parseFieldDescriptor (TX9 k).2.2.1 = some (tyX9 k) := by decide +kernel
abbrev cX9_init : ByteArray := prog_1_method_1_code
def yX9_init : MethodName := ⟨RX9, "<init>", "()V"⟩
abbrev cX9_write : ByteArray := prog_1_method_2_code
def yX9_write : MethodName := ⟨RX9, "write", "(I)I"⟩
abbrev cX9_wipe : ByteArray := prog_1_method_3_code
def yX9_wipe : MethodName := ⟨RX9, "wipe", "()I"⟩
abbrev cX9_fault : ByteArray := prog_1_method_4_code
def yX9_fault : MethodName := ⟨RX9, "fault", "()I"⟩
abbrev cX9_desk : ByteArray := prog_1_method_5_code
def yX9_desk : MethodName := ⟨RX9, "desk", "()I"⟩
abbrev cX9_word : ByteArray := prog_1_method_6_code
def yX9_word : MethodName := ⟨RX9, "word", "(IJ)I"⟩
abbrev cX9_pen : ByteArray := prog_1_method_7_code
def yX9_pen : MethodName := ⟨RX9, "pen", "(II)I"⟩
abbrev cX9_dot : ByteArray := prog_1_method_8_code
def yX9_dot : MethodName := ⟨RX9, "dot", "(I)I"⟩
abbrev cX9_thick : ByteArray := prog_1_method_9_code
def yX9_thick : MethodName := ⟨RX9, "thick", "(II)I"⟩
abbrev cX9_step : ByteArray := prog_1_method_10_code
def yX9_step : MethodName := ⟨RX9, "step", "(II)I"⟩
abbrev cX9_put : ByteArray := prog_1_method_11_code
def yX9_put : MethodName := ⟨RX9, "put", "(I)I"⟩
abbrev cX9_dip : ByteArray := prog_1_method_12_code
def yX9_dip : MethodName := ⟨RX9, "dip", "(I)I"⟩
abbrev cX9_turn : ByteArray := prog_1_method_13_code
def yX9_turn : MethodName := ⟨RX9, "turn", "(I)I"⟩
abbrev cX9_blot : ByteArray := prog_1_method_14_code
def yX9_blot : MethodName := ⟨RX9, "blot", "(I)I"⟩
abbrev cX9_undo : ByteArray := prog_1_method_15_code
def yX9_undo : MethodName := ⟨RX9, "undo", "()I"⟩
abbrev cX9_behind : ByteArray := prog_1_method_16_code
def yX9_behind : MethodName := ⟨RX9, "behind", "(III)I"⟩
abbrev cX9_least : ByteArray := prog_1_method_17_code
def yX9_least : MethodName := ⟨RX9, "least", "(III)I"⟩
abbrev cX9_rings : ByteArray := prog_1_method_18_code
def yX9_rings : MethodName := ⟨RX9, "rings", "(III)I"⟩
abbrev cX9_judge : ByteArray := prog_1_method_19_code
def yX9_judge : MethodName := ⟨RX9, "judge", "(IJ)I"⟩
abbrev cX9_see : ByteArray := prog_1_method_20_code
def yX9_see : MethodName := ⟨RX9, "see", "(II)I"⟩
abbrev cX9_unsee : ByteArray := prog_1_method_21_code
def yX9_unsee : MethodName := ⟨RX9, "unsee", "()I"⟩
abbrev cX9_nibs : ByteArray := prog_1_method_22_code
def yX9_nibs : MethodName := ⟨RX9, "nibs", "(I)I"⟩
abbrev cX9_share : ByteArray := prog_1_method_23_code
def yX9_share : MethodName := ⟨RX9, "share", "(IZ)I"⟩
abbrev cX9_rests : ByteArray := prog_1_method_24_code
def yX9_rests : MethodName := ⟨RX9, "rests", "(III)I"⟩
abbrev cX9_skipped : ByteArray := prog_1_method_25_code
def yX9_skipped : MethodName := ⟨RX9, "skipped", "(IIIZ)I"⟩
abbrev cX9_seed : ByteArray := prog_1_method_26_code
def yX9_seed : MethodName := ⟨RX9, "seed", "(J)J"⟩
abbrev cX9_years : ByteArray := prog_1_method_27_code
def yX9_years : MethodName := ⟨RX9, "years", "(I)I"⟩
abbrev cX9_keep : ByteArray := prog_1_method_28_code
def yX9_keep : MethodName := ⟨RX9, "keep", "(I)I"⟩
abbrev cX9_again : ByteArray := prog_1_method_29_code
def yX9_again : MethodName := ⟨RX9, "again", "(I)I"⟩
abbrev cX9_count : ByteArray := prog_1_method_30_code
def yX9_count : MethodName := ⟨RX9, "count", "(I)I"⟩
abbrev cX9_tried : ByteArray := prog_1_method_31_code
def yX9_tried : MethodName := ⟨RX9, "tried", "(I)LBroadNib$Pen;"⟩
abbrev cX9_placeOfStop : ByteArray := prog_1_method_32_code
def yX9_placeOfStop : MethodName := ⟨RX9, "placeOfStop", "(I)I"⟩
abbrev cX9_isDone : ByteArray := prog_1_method_33_code
def yX9_isDone : MethodName := ⟨RX9, "isDone", "(III)Z"⟩
abbrev cX9_blackerBehind : ByteArray := prog_1_method_34_code
def yX9_blackerBehind : MethodName := ⟨RX9, "blackerBehind", "(II)I"⟩
abbrev cX9_reckonGains : ByteArray := prog_1_method_35_code
def yX9_reckonGains : MethodName := ⟨RX9, "reckonGains", "(III)V"⟩
abbrev cX9_isRest : ByteArray := prog_1_method_36_code
def yX9_isRest : MethodName := ⟨RX9, "isRest", "(I)Z"⟩
abbrev cX9_casesOfEnough : ByteArray := prog_1_method_37_code
def yX9_casesOfEnough : MethodName := ⟨RX9, "casesOfEnough", "(LBroadNib$Pen;LBroadNib$Word;IIIII)J"⟩
abbrev cX9_passYear : ByteArray := prog_1_method_38_code
def yX9_passYear : MethodName := ⟨RX9, "passYear", "(I)V"⟩
abbrev cX9_isWithin : ByteArray := prog_1_method_39_code
def yX9_isWithin : MethodName := ⟨RX9, "isWithin", "(II)Z"⟩
abbrev cX9_isDot : ByteArray := prog_1_method_40_code
def yX9_isDot : MethodName := ⟨RX9, "isDot", "(I)Z"⟩
abbrev cX9_isDirection : ByteArray := prog_1_method_41_code
def yX9_isDirection : MethodName := ⟨RX9, "isDirection", "(I)Z"⟩
abbrev cX9_tens : ByteArray := prog_1_method_42_code
def yX9_tens : MethodName := ⟨RX9, "tens", "(I)J"⟩
abbrev cX9_orders : ByteArray := prog_1_method_43_code
def yX9_orders : MethodName := ⟨RX9, "orders", "(I)I"⟩
abbrev cX9_hasFigures : ByteArray := prog_1_method_44_code
def yX9_hasFigures : MethodName := ⟨RX9, "hasFigures", "(JI)Z"⟩
abbrev cX9_figure : ByteArray := prog_1_method_45_code
def yX9_figure : MethodName := ⟨RX9, "figure", "(JI)I"⟩
abbrev cX9_neighbour : ByteArray := prog_1_method_46_code
def yX9_neighbour : MethodName := ⟨RX9, "neighbour", "(II)I"⟩
abbrev cX9_toldFraction : ByteArray := prog_1_method_47_code
def yX9_toldFraction : MethodName := ⟨RX9, "toldFraction", "(JJZ)I"⟩
abbrev cX9_commonDivisor : ByteArray := prog_1_method_48_code
def yX9_commonDivisor : MethodName := ⟨RX9, "commonDivisor", "(JJ)J"⟩
def RX10 : String := "BroadNibModel"
def TX10 : u_T := fun k => match k with
  | 0 => ("BroadNibModel", "pens", "I", false)
  | 1 => ("BroadNibModel", "kind", "[I", true)
  | 2 => ("BroadNibModel", "holds", "[I", true)
  | 3 => ("BroadNibModel", "now", "[I", true)
  | 4 => ("BroadNibModel", "readPen", "[I", true)
  | 5 => ("BroadNibModel", "readStain", "[I", true)
  | 6 => ("BroadNibModel", "readPens", "I", false)
  | 7 => ("BroadNibModel", "readStains", "I", false)
  | 8 => ("BroadNibModel", "text", "[I", true)
  | 9 => ("BroadNibModel", "length", "I", false)
  | 10 => ("BroadNibModel", "at", "I", false)
  | 11 => ("BroadNibModel", "faultAt", "I", false)
  | 12 => ("BroadNibModel", "wordMany", "I", false)
  | 13 => ("BroadNibModel", "word", "[I", true)
  | 14 => ("BroadNibModel", "wrote", "I", false)
  | 15 => ("BroadNibModel", "acts", "I", false)
  | 16 => ("BroadNibModel", "next", "I", false)
  | 17 => ("BroadNibModel", "row", "[I", true)
  | 18 => ("BroadNibModel", "far", "[I", true)
  | 19 => ("BroadNibModel", "seen", "I", false)
  | 20 => ("BroadNibModel", "seenWay", "[I", true)
  | 21 => ("BroadNibModel", "seenThick", "[I", true)
  | 22 => ("BroadNibModel", "seed", "J", false)
  | 23 => ("BroadNibModel", "isKept", "[Z", true)
  | _ => ("BroadNibModel", "kept", "[I", true)
def tyX10 : Nat → FieldType := fun k => match k with
  | 0 => .int
  | 1 => .array .int
  | 2 => .array .int
  | 3 => .array .int
  | 4 => .array .int
  | 5 => .array .int
  | 6 => .int
  | 7 => .int
  | 8 => .array .int
  | 9 => .int
  | 10 => .int
  | 11 => .int
  | 12 => .int
  | 13 => .array .int
  | 14 => .int
  | 15 => .int
  | 16 => .int
  | 17 => .array .int
  | 18 => .array .int
  | 19 => .int
  | 20 => .array .int
  | 21 => .array .int
  | 22 => .long
  | 23 => .array .boolean
  | _ => .array .int
abbrev wsX100 : List Cond := u_ws RX10 TX10 25
theorem nmX10 : ∀ a, a < 25 → ∀ b, b < 25 → a ≠ b → (TX10 a).2.1 ≠ (TX10 b).2.1 := by decide +kernel
theorem tyX10_ok : ∀ k, k < 25 → parseFieldDescriptor (TX10 k).2.2.1 = some (tyX10 k) := by decide +kernel
abbrev cX10_init : ByteArray := prog_12_method_1_code
def yX10_init : MethodName := ⟨RX10, "<init>", "()V"⟩
abbrev cX10_in : ByteArray := prog_12_method_3_code
def yX10_in : MethodName := ⟨RX10, "in", "(JJJ)Z"⟩
abbrev cX10_has : ByteArray := prog_12_method_4_code
def yX10_has : MethodName := ⟨RX10, "has", "(II)Z"⟩
abbrev cX10_ones : ByteArray := prog_12_method_5_code
def yX10_ones : MethodName := ⟨RX10, "ones", "(I)I"⟩
abbrev cX10_write : ByteArray := prog_12_method_6_code
def yX10_write : MethodName := ⟨RX10, "write", "(I)I"⟩
abbrev cX10_wipe : ByteArray := prog_12_method_7_code
def yX10_wipe : MethodName := ⟨RX10, "wipe", "()I"⟩
abbrev cX10_figureOf : ByteArray := prog_12_method_8_code
def yX10_figureOf : MethodName := ⟨RX10, "figureOf", "(II)I"⟩
abbrev cX10_readText : ByteArray := prog_12_method_9_code
def yX10_readText : MethodName := ⟨RX10, "readText", "()I"⟩
abbrev cX10_readPart : ByteArray := prog_12_method_10_code
def yX10_readPart : MethodName := ⟨RX10, "readPart", "(I)V"⟩
abbrev cX10_fault : ByteArray := prog_12_method_11_code
def yX10_fault : MethodName := ⟨RX10, "fault", "()I"⟩
abbrev cX10_desk : ByteArray := prog_12_method_12_code
def yX10_desk : MethodName := ⟨RX10, "desk", "()I"⟩
abbrev cX10_tenTo : ByteArray := prog_12_method_13_code
def yX10_tenTo : MethodName := ⟨RX10, "tenTo", "(I)J"⟩
abbrev cX10_word : ByteArray := prog_12_method_14_code
def yX10_word : MethodName := ⟨RX10, "word", "(IJ)I"⟩
abbrev cX10_isPen : ByteArray := prog_12_method_15_code
def yX10_isPen : MethodName := ⟨RX10, "isPen", "(I)Z"⟩
abbrev cX10_across : ByteArray := prog_12_method_16_code
def yX10_across : MethodName := ⟨RX10, "across", "(I)I"⟩
abbrev cX10_upward : ByteArray := prog_12_method_17_code
def yX10_upward : MethodName := ⟨RX10, "upward", "(I)I"⟩
abbrev cX10_nextDot : ByteArray := prog_12_method_18_code
def yX10_nextDot : MethodName := ⟨RX10, "nextDot", "(II)I"⟩
abbrev cX10_size : ByteArray := prog_12_method_19_code
def yX10_size : MethodName := ⟨RX10, "size", "(I)I"⟩
abbrev cX10_thickOn : ByteArray := prog_12_method_20_code
def yX10_thickOn : MethodName := ⟨RX10, "thickOn", "(III)I"⟩
abbrev cX10_canStep : ByteArray := prog_12_method_21_code
def yX10_canStep : MethodName := ⟨RX10, "canStep", "(III)Z"⟩
abbrev cX10_stepOn : ByteArray := prog_12_method_22_code
def yX10_stepOn : MethodName := ⟨RX10, "stepOn", "(III)I"⟩
abbrev cX10_turnOn : ByteArray := prog_12_method_23_code
def yX10_turnOn : MethodName := ⟨RX10, "turnOn", "(II)V"⟩
abbrev cX10_nibOf : ByteArray := prog_12_method_24_code
def yX10_nibOf : MethodName := ⟨RX10, "nibOf", "(I)I"⟩
abbrev cX10_writeOn : ByteArray := prog_12_method_25_code
def yX10_writeOn : MethodName := ⟨RX10, "writeOn", "(IIII)I"⟩
abbrev cX10_blackOn : ByteArray := prog_12_method_26_code
def yX10_blackOn : MethodName := ⟨RX10, "blackOn", "(I)I"⟩
abbrev cX10_inkOn : ByteArray := prog_12_method_27_code
def yX10_inkOn : MethodName := ⟨RX10, "inkOn", "(I)I"⟩
abbrev cX10_layTrial : ByteArray := prog_12_method_28_code
def yX10_layTrial : MethodName := ⟨RX10, "layTrial", "()V"⟩
abbrev cX10_stopsAt : ByteArray := prog_12_method_29_code
def yX10_stopsAt : MethodName := ⟨RX10, "stopsAt", "(I)I"⟩
abbrev cX10_pen : ByteArray := prog_12_method_30_code
def yX10_pen : MethodName := ⟨RX10, "pen", "(II)I"⟩
abbrev cX10_dot : ByteArray := prog_12_method_31_code
def yX10_dot : MethodName := ⟨RX10, "dot", "(I)I"⟩
abbrev cX10_thick : ByteArray := prog_12_method_32_code
def yX10_thick : MethodName := ⟨RX10, "thick", "(II)I"⟩
abbrev cX10_keepAct : ByteArray := prog_12_method_33_code
def yX10_keepAct : MethodName := ⟨RX10, "keepAct", "()V"⟩
abbrev cX10_step : ByteArray := prog_12_method_34_code
def yX10_step : MethodName := ⟨RX10, "step", "(II)I"⟩
abbrev cX10_put : ByteArray := prog_12_method_35_code
def yX10_put : MethodName := ⟨RX10, "put", "(I)I"⟩
abbrev cX10_dip : ByteArray := prog_12_method_36_code
def yX10_dip : MethodName := ⟨RX10, "dip", "(I)I"⟩
abbrev cX10_turn : ByteArray := prog_12_method_37_code
def yX10_turn : MethodName := ⟨RX10, "turn", "(I)I"⟩
abbrev cX10_blot : ByteArray := prog_12_method_38_code
def yX10_blot : MethodName := ⟨RX10, "blot", "(I)I"⟩
abbrev cX10_undo : ByteArray := prog_12_method_39_code
def yX10_undo : MethodName := ⟨RX10, "undo", "()I"⟩
abbrev cX10_behind : ByteArray := prog_12_method_40_code
def yX10_behind : MethodName := ⟨RX10, "behind", "(III)I"⟩
abbrev cX10_findFar : ByteArray := prog_12_method_41_code
def yX10_findFar : MethodName := ⟨RX10, "findFar", "(II)V"⟩
abbrev cX10_firstWay : ByteArray := prog_12_method_42_code
def yX10_firstWay : MethodName := ⟨RX10, "firstWay", "(I)I"⟩
abbrev cX10_least : ByteArray := prog_12_method_43_code
def yX10_least : MethodName := ⟨RX10, "least", "(III)I"⟩
abbrev cX10_ringBy : ByteArray := prog_12_method_44_code
def yX10_ringBy : MethodName := ⟨RX10, "ringBy", "(III)I"⟩
abbrev cX10_rings : ByteArray := prog_12_method_45_code
def yX10_rings : MethodName := ⟨RX10, "rings", "(III)I"⟩
abbrev cX10_tryThing : ByteArray := prog_12_method_46_code
def yX10_tryThing : MethodName := ⟨RX10, "tryThing", "(III)Z"⟩
abbrev cX10_writesAll : ByteArray := prog_12_method_47_code
def yX10_writesAll : MethodName := ⟨RX10, "writesAll", "(I)Z"⟩
abbrev cX10_thousandTo : ByteArray := prog_12_method_48_code
def yX10_thousandTo : MethodName := ⟨RX10, "thousandTo", "(I)J"⟩
abbrev cX10_judge : ByteArray := prog_12_method_49_code
def yX10_judge : MethodName := ⟨RX10, "judge", "(IJ)I"⟩
abbrev cX10_see : ByteArray := prog_12_method_50_code
def yX10_see : MethodName := ⟨RX10, "see", "(II)I"⟩
abbrev cX10_unsee : ByteArray := prog_12_method_51_code
def yX10_unsee : MethodName := ⟨RX10, "unsee", "()I"⟩
abbrev cX10_nibs : ByteArray := prog_12_method_52_code
def yX10_nibs : MethodName := ⟨RX10, "nibs", "(I)I"⟩
abbrev cX10_factorial : ByteArray := prog_12_method_53_code
def yX10_factorial : MethodName := ⟨RX10, "factorial", "(I)I"⟩
abbrev cX10_common : ByteArray := prog_12_method_54_code
def yX10_common : MethodName := ⟨RX10, "common", "(II)I"⟩
abbrev cX10_blackBy : ByteArray := prog_12_method_55_code
def yX10_blackBy : MethodName := ⟨RX10, "blackBy", "(I)I"⟩
abbrev cX10_share : ByteArray := prog_12_method_56_code
def yX10_share : MethodName := ⟨RX10, "share", "(IZ)I"⟩
abbrev cX10_gain : ByteArray := prog_12_method_57_code
def yX10_gain : MethodName := ⟨RX10, "gain", "(IIIII)I"⟩
abbrev cX10_isRest : ByteArray := prog_12_method_58_code
def yX10_isRest : MethodName := ⟨RX10, "isRest", "(IIII)Z"⟩
abbrev cX10_rests : ByteArray := prog_12_method_59_code
def yX10_rests : MethodName := ⟨RX10, "rests", "(III)I"⟩
abbrev cX10_skipped : ByteArray := prog_12_method_60_code
def yX10_skipped : MethodName := ⟨RX10, "skipped", "(IIIZ)I"⟩
abbrev cX10_seed : ByteArray := prog_12_method_61_code
def yX10_seed : MethodName := ⟨RX10, "seed", "(J)J"⟩
abbrev cX10_years : ByteArray := prog_12_method_62_code
def yX10_years : MethodName := ⟨RX10, "years", "(I)I"⟩
abbrev cX10_keep : ByteArray := prog_12_method_63_code
def yX10_keep : MethodName := ⟨RX10, "keep", "(I)I"⟩
abbrev cX10_again : ByteArray := prog_12_method_64_code
def yX10_again : MethodName := ⟨RX10, "again", "(I)I"⟩
abbrev cX10_fullPens : ByteArray := prog_12_method_65_code
def yX10_fullPens : MethodName := ⟨RX10, "fullPens", "()I"⟩
abbrev cX10_count : ByteArray := prog_12_method_66_code
def yX10_count : MethodName := ⟨RX10, "count", "(I)I"⟩
def RJ6 : String := "java/lang/Integer"
def TJ6 : u_T := fun k => match k with
  | _ => ("", "", "", false)
def tyJ6 : Nat → FieldType := fun k => match k with
  | _ => .int
abbrev wsJ60 : List Cond := u_ws RJ6 TJ6 0
theorem nmJ6 : ∀ a, a < 0 → ∀ b, b < 0 → a ≠ b → (TJ6 a).2.1 ≠ (TJ6 b).2.1 := by decide +kernel
theorem tyJ6_ok : ∀ k, k < 0 → parseFieldDescriptor (TJ6 k).2.2.1 = some (tyJ6 k) := by decide +kernel
abbrev cJ6_bitCount_0f7a4 : ByteArray := prog_13_method_49_code
def yJ6_bitCount_0f7a4 : MethodName := ⟨RJ6, "bitCount", "(I)I"⟩
def RJ9 : String := "java/lang/Math"
def TJ9 : u_T := fun k => match k with
  | _ => ("", "", "", false)
def tyJ9 : Nat → FieldType := fun k => match k with
  | _ => .int
abbrev wsJ90 : List Cond := u_ws RJ9 TJ9 0
theorem nmJ9 : ∀ a, a < 0 → ∀ b, b < 0 → a ≠ b → (TJ9 a).2.1 ≠ (TJ9 b).2.1 := by decide +kernel
theorem tyJ9_ok : ∀ k, k < 0 → parseFieldDescriptor (TJ9 k).2.2.1 = some (tyJ9 k) := by decide +kernel
abbrev cJ9_floorMod_7cf53 : ByteArray := prog_14_method_50_code
def yJ9_floorMod_7cf53 : MethodName := ⟨RJ9, "floorMod", "(II)I"⟩
abbrev cJ9_abs_0f7a4 : ByteArray := prog_14_method_59_code
def yJ9_abs_0f7a4 : MethodName := ⟨RJ9, "abs", "(I)I"⟩
abbrev cJ9_min_7cf53 : ByteArray := prog_14_method_69_code
def yJ9_min_7cf53 : MethodName := ⟨RJ9, "min", "(II)I"⟩
def RJ10 : String := "java/lang/System"
def TJ10 : u_T := fun k => match k with
  | _ => ("", "", "", false)
def tyJ10 : Nat → FieldType := fun k => match k with
  | _ => .int
abbrev wsJ100 : List Cond := u_ws RJ10 TJ10 0
theorem nmJ10 : ∀ a, a < 0 → ∀ b, b < 0 → a ≠ b → (TJ10 a).2.1 ≠ (TJ10 b).2.1 := by decide +kernel
theorem tyJ10_ok : ∀ k, k < 0 → parseFieldDescriptor (TJ10 k).2.2.1 = some (tyJ10 k) := by decide +kernel
def RJ7 : String := "java/util/Arrays"
def TJ7 : u_T := fun k => match k with
  | _ => ("", "", "", false)
def tyJ7 : Nat → FieldType := fun k => match k with
  | _ => .int
abbrev wsJ70 : List Cond := u_ws RJ7 TJ7 0
theorem nmJ7 : ∀ a, a < 0 → ∀ b, b < 0 → a ≠ b → (TJ7 a).2.1 ≠ (TJ7 b).2.1 := by decide +kernel
theorem tyJ7_ok : ∀ k, k < 0 → parseFieldDescriptor (TJ7 k).2.2.1 = some (tyJ7 k) := by decide +kernel
abbrev cJ7_fill_53178 : ByteArray := prog_16_method_103_code
def yJ7_fill_53178 : MethodName := ⟨RJ7, "fill", "([II)V"⟩
def RL : String := "BroadNibLaw"
abbrev cL_law : ByteArray := code
def yL_law : MethodName := ⟨RL, "law", "([I)Z"⟩
abbrev vwCl : List vw_C := [(RX0, TX0, 5), (RX1, TX1, 3), (RX2, TX2, 7), (RX3, TX3, 4), (RX4, TX4, 4), (RX5, TX5, 2), (RX6, TX6, 2), (RX7, TX7, 6), (RX8, TX8, 2), (RX9, TX9, 11), (RX10, TX10, 25)]
end
section
theorem dX0_init_0 : decode cX0_init 0 = .ok (.aload_n 0, 1) := by decide +kernel
theorem dX0_init_1 : decode cX0_init 1 = .ok (.invokespecial 1, 3) := by decide +kernel
theorem dX0_init_4 : decode cX0_init 4 = .ok (.aload_n 0, 1) := by decide +kernel
theorem dX0_init_5 : decode cX0_init 5 = .ok (.new 7, 3) := by decide +kernel
theorem dX0_init_8 : decode cX0_init 8 = .ok (.dup, 1) := by decide +kernel
theorem dX0_init_9 : decode cX0_init 9 = .ok (.invokespecial 9, 3) := by decide +kernel
theorem dX0_init_12 : decode cX0_init 12 = .ok (.putfield 10, 3) := by decide +kernel
theorem dX0_init_15 : decode cX0_init 15 = .ok (.return_, 1) := by decide +kernel
theorem dX0_note_0 : decode cX0_note 0 = .ok (.aload_n 0, 1) := by decide +kernel
theorem dX0_note_1 : decode cX0_note 1 = .ok (.iload_n 2, 1) := by decide +kernel
theorem dX0_note_2 : decode cX0_note 2 = .ok (.putfield 16, 3) := by decide +kernel
theorem dX0_note_5 : decode cX0_note 5 = .ok (.aload_n 0, 1) := by decide +kernel
theorem dX0_note_6 : decode cX0_note 6 = .ok (.iload_n 3, 1) := by decide +kernel
theorem dX0_note_7 : decode cX0_note 7 = .ok (.putfield 20, 3) := by decide +kernel
theorem dX0_note_10 : decode cX0_note 10 = .ok (.aload_n 0, 1) := by decide +kernel
theorem dX0_note_11 : decode cX0_note 11 = .ok (.aload_n 1, 1) := by decide +kernel
theorem dX0_note_12 : decode cX0_note 12 = .ok (.aload_n 0, 1) := by decide +kernel
theorem dX0_note_13 : decode cX0_note 13 = .ok (.getfield 20, 3) := by decide +kernel
theorem dX0_note_16 : decode cX0_note 16 = .ok (.invokevirtual 23, 3) := by decide +kernel
theorem dX0_note_19 : decode cX0_note 19 = .ok (.putfield 29, 3) := by decide +kernel
theorem dX0_note_22 : decode cX0_note 22 = .ok (.aload_n 0, 1) := by decide +kernel
theorem dX0_note_23 : decode cX0_note 23 = .ok (.aload_n 1, 1) := by decide +kernel
theorem dX0_note_24 : decode cX0_note 24 = .ok (.getfield 32, 3) := by decide +kernel
theorem dX0_note_27 : decode cX0_note 27 = .ok (.putfield 35, 3) := by decide +kernel
theorem dX0_note_30 : decode cX0_note 30 = .ok (.aload_n 1, 1) := by decide +kernel
theorem dX0_note_31 : decode cX0_note 31 = .ok (.aload_n 0, 1) := by decide +kernel
theorem dX0_note_32 : decode cX0_note 32 = .ok (.getfield 16, 3) := by decide +kernel
theorem dX0_note_35 : decode cX0_note 35 = .ok (.invokevirtual 38, 3) := by decide +kernel
theorem dX0_note_38 : decode cX0_note 38 = .ok (.astore 4, 2) := by decide +kernel
theorem dX0_note_40 : decode cX0_note 40 = .ok (.aload 4, 2) := by decide +kernel
theorem dX0_note_42 : decode cX0_note 42 = .ok (.ifnull 12, 3) := by decide +kernel
theorem dX0_note_45 : decode cX0_note 45 = .ok (.aload_n 0, 1) := by decide +kernel
theorem dX0_note_46 : decode cX0_note 46 = .ok (.getfield 10, 3) := by decide +kernel
theorem dX0_note_49 : decode cX0_note 49 = .ok (.aload 4, 2) := by decide +kernel
theorem dX0_note_51 : decode cX0_note 51 = .ok (.invokevirtual 42, 3) := by decide +kernel
theorem dX0_note_54 : decode cX0_note 54 = .ok (.return_, 1) := by decide +kernel
theorem dX0_takeBack_0 : decode cX0_takeBack 0 = .ok (.aload_n 1, 1) := by decide +kernel
theorem dX0_takeBack_1 : decode cX0_takeBack 1 = .ok (.aload_n 0, 1) := by decide +kernel
theorem dX0_takeBack_2 : decode cX0_takeBack 2 = .ok (.getfield 20, 3) := by decide +kernel
theorem dX0_takeBack_5 : decode cX0_takeBack 5 = .ok (.aload_n 0, 1) := by decide +kernel
theorem dX0_takeBack_6 : decode cX0_takeBack 6 = .ok (.getfield 29, 3) := by decide +kernel
theorem dX0_takeBack_9 : decode cX0_takeBack 9 = .ok (.invokevirtual 46, 3) := by decide +kernel
theorem dX0_takeBack_12 : decode cX0_takeBack 12 = .ok (.aload_n 1, 1) := by decide +kernel
theorem dX0_takeBack_13 : decode cX0_takeBack 13 = .ok (.aload_n 0, 1) := by decide +kernel
theorem dX0_takeBack_14 : decode cX0_takeBack 14 = .ok (.getfield 35, 3) := by decide +kernel
theorem dX0_takeBack_17 : decode cX0_takeBack 17 = .ok (.putfield 32, 3) := by decide +kernel
theorem dX0_takeBack_20 : decode cX0_takeBack 20 = .ok (.aload_n 1, 1) := by decide +kernel
theorem dX0_takeBack_21 : decode cX0_takeBack 21 = .ok (.aload_n 0, 1) := by decide +kernel
theorem dX0_takeBack_22 : decode cX0_takeBack 22 = .ok (.getfield 16, 3) := by decide +kernel
theorem dX0_takeBack_25 : decode cX0_takeBack 25 = .ok (.invokevirtual 38, 3) := by decide +kernel
theorem dX0_takeBack_28 : decode cX0_takeBack 28 = .ok (.astore_n 2, 1) := by decide +kernel
theorem dX0_takeBack_29 : decode cX0_takeBack 29 = .ok (.aload_n 2, 1) := by decide +kernel
theorem dX0_takeBack_30 : decode cX0_takeBack 30 = .ok (.ifnull 11, 3) := by decide +kernel
theorem dX0_takeBack_33 : decode cX0_takeBack 33 = .ok (.aload_n 2, 1) := by decide +kernel
theorem dX0_takeBack_34 : decode cX0_takeBack 34 = .ok (.aload_n 0, 1) := by decide +kernel
theorem dX0_takeBack_35 : decode cX0_takeBack 35 = .ok (.getfield 10, 3) := by decide +kernel
theorem dX0_takeBack_38 : decode cX0_takeBack 38 = .ok (.invokevirtual 42, 3) := by decide +kernel
theorem dX0_takeBack_41 : decode cX0_takeBack 41 = .ok (.return_, 1) := by decide +kernel
theorem dX1_init_0 : decode cX1_init 0 = .ok (.aload_n 0, 1) := by decide +kernel
theorem dX1_init_1 : decode cX1_init 1 = .ok (.invokespecial 3, 3) := by decide +kernel
theorem dX1_init_4 : decode cX1_init 4 = .ok (.aload_n 0, 1) := by decide +kernel
theorem dX1_init_5 : decode cX1_init 5 = .ok (.bipush 14, 2) := by decide +kernel
theorem dX1_init_7 : decode cX1_init 7 = .ok (.anewarray 9, 3) := by decide +kernel
theorem dX1_init_10 : decode cX1_init 10 = .ok (.putfield 11, 3) := by decide +kernel
theorem dX1_init_13 : decode cX1_init 13 = .ok (.iconst 0, 1) := by decide +kernel
theorem dX1_init_14 : decode cX1_init 14 = .ok (.istore_n 1, 1) := by decide +kernel
theorem dX1_init_15 : decode cX1_init 15 = .ok (.iload_n 1, 1) := by decide +kernel
theorem dX1_init_16 : decode cX1_init 16 = .ok (.bipush 14, 2) := by decide +kernel
theorem dX1_init_18 : decode cX1_init 18 = .ok (.if_icmp .ge 22, 3) := by decide +kernel
theorem dX1_init_21 : decode cX1_init 21 = .ok (.aload_n 0, 1) := by decide +kernel
theorem dX1_init_22 : decode cX1_init 22 = .ok (.getfield 11, 3) := by decide +kernel
theorem dX1_init_25 : decode cX1_init 25 = .ok (.iload_n 1, 1) := by decide +kernel
theorem dX1_init_26 : decode cX1_init 26 = .ok (.new 9, 3) := by decide +kernel
theorem dX1_init_29 : decode cX1_init 29 = .ok (.dup, 1) := by decide +kernel
theorem dX1_init_30 : decode cX1_init 30 = .ok (.invokespecial 17, 3) := by decide +kernel
theorem dX1_init_33 : decode cX1_init 33 = .ok (.aastore, 1) := by decide +kernel
theorem dX1_init_34 : decode cX1_init 34 = .ok (.iinc 1 1, 3) := by decide +kernel
theorem dX1_init_37 : decode cX1_init 37 = .ok (.goto (-22), 3) := by decide +kernel
theorem dX1_init_40 : decode cX1_init 40 = .ok (.return_, 1) := by decide +kernel
theorem dX1_at_0 : decode cX1_at 0 = .ok (.aload_n 0, 1) := by decide +kernel
theorem dX1_at_1 : decode cX1_at 1 = .ok (.getfield 11, 3) := by decide +kernel
theorem dX1_at_4 : decode cX1_at 4 = .ok (.aload_n 0, 1) := by decide +kernel
theorem dX1_at_5 : decode cX1_at 5 = .ok (.getfield 18, 3) := by decide +kernel
theorem dX1_at_8 : decode cX1_at 8 = .ok (.iload_n 1, 1) := by decide +kernel
theorem dX1_at_9 : decode cX1_at 9 = .ok (.iadd, 1) := by decide +kernel
theorem dX1_at_10 : decode cX1_at 10 = .ok (.bipush 14, 2) := by decide +kernel
theorem dX1_at_12 : decode cX1_at 12 = .ok (.invokestatic 22, 3) := by decide +kernel
theorem dX1_at_15 : decode cX1_at 15 = .ok (.aaload, 1) := by decide +kernel
theorem dX1_at_16 : decode cX1_at 16 = .ok (.areturn, 1) := by decide +kernel
theorem dX1_note_0 : decode cX1_note 0 = .ok (.aload_n 0, 1) := by decide +kernel
theorem dX1_note_1 : decode cX1_note 1 = .ok (.getfield 28, 3) := by decide +kernel
theorem dX1_note_4 : decode cX1_note 4 = .ok (.bipush 14, 2) := by decide +kernel
theorem dX1_note_6 : decode cX1_note 6 = .ok (.if_icmp .ge 16, 3) := by decide +kernel
theorem dX1_note_9 : decode cX1_note 9 = .ok (.aload_n 0, 1) := by decide +kernel
theorem dX1_note_10 : decode cX1_note 10 = .ok (.dup, 1) := by decide +kernel
theorem dX1_note_11 : decode cX1_note 11 = .ok (.getfield 28, 3) := by decide +kernel
theorem dX1_note_14 : decode cX1_note 14 = .ok (.iconst 1, 1) := by decide +kernel
theorem dX1_note_15 : decode cX1_note 15 = .ok (.iadd, 1) := by decide +kernel
theorem dX1_note_16 : decode cX1_note 16 = .ok (.putfield 28, 3) := by decide +kernel
theorem dX1_note_19 : decode cX1_note 19 = .ok (.goto 16, 3) := by decide +kernel
theorem dX1_note_22 : decode cX1_note 22 = .ok (.aload_n 0, 1) := by decide +kernel
theorem dX1_note_23 : decode cX1_note 23 = .ok (.aload_n 0, 1) := by decide +kernel
theorem dX1_note_24 : decode cX1_note 24 = .ok (.getfield 18, 3) := by decide +kernel
theorem dX1_note_27 : decode cX1_note 27 = .ok (.iconst 1, 1) := by decide +kernel
theorem dX1_note_28 : decode cX1_note 28 = .ok (.iadd, 1) := by decide +kernel
theorem dX1_note_29 : decode cX1_note 29 = .ok (.bipush 14, 2) := by decide +kernel
theorem dX1_note_31 : decode cX1_note 31 = .ok (.irem, 1) := by decide +kernel
theorem dX1_note_32 : decode cX1_note 32 = .ok (.putfield 18, 3) := by decide +kernel
theorem dX1_note_35 : decode cX1_note 35 = .ok (.aload_n 0, 1) := by decide +kernel
theorem dX1_note_36 : decode cX1_note 36 = .ok (.aload_n 0, 1) := by decide +kernel
theorem dX1_note_37 : decode cX1_note 37 = .ok (.getfield 28, 3) := by decide +kernel
theorem dX1_note_40 : decode cX1_note 40 = .ok (.iconst 1, 1) := by decide +kernel
theorem dX1_note_41 : decode cX1_note 41 = .ok (.isub, 1) := by decide +kernel
theorem dX1_note_42 : decode cX1_note 42 = .ok (.invokevirtual 31, 3) := by decide +kernel
theorem dX1_note_45 : decode cX1_note 45 = .ok (.aload_n 1, 1) := by decide +kernel
theorem dX1_note_46 : decode cX1_note 46 = .ok (.iload_n 2, 1) := by decide +kernel
theorem dX1_note_47 : decode cX1_note 47 = .ok (.iload_n 3, 1) := by decide +kernel
theorem dX1_note_48 : decode cX1_note 48 = .ok (.invokevirtual 35, 3) := by decide +kernel
theorem dX1_note_51 : decode cX1_note 51 = .ok (.return_, 1) := by decide +kernel
theorem dX1_takeBackLast_0 : decode cX1_takeBackLast 0 = .ok (.aload_n 0, 1) := by decide +kernel
theorem dX1_takeBackLast_1 : decode cX1_takeBackLast 1 = .ok (.dup, 1) := by decide +kernel
theorem dX1_takeBackLast_2 : decode cX1_takeBackLast 2 = .ok (.getfield 28, 3) := by decide +kernel
theorem dX1_takeBackLast_5 : decode cX1_takeBackLast 5 = .ok (.iconst 1, 1) := by decide +kernel
theorem dX1_takeBackLast_6 : decode cX1_takeBackLast 6 = .ok (.isub, 1) := by decide +kernel
theorem dX1_takeBackLast_7 : decode cX1_takeBackLast 7 = .ok (.putfield 28, 3) := by decide +kernel
theorem dX1_takeBackLast_10 : decode cX1_takeBackLast 10 = .ok (.aload_n 0, 1) := by decide +kernel
theorem dX1_takeBackLast_11 : decode cX1_takeBackLast 11 = .ok (.aload_n 0, 1) := by decide +kernel
theorem dX1_takeBackLast_12 : decode cX1_takeBackLast 12 = .ok (.getfield 28, 3) := by decide +kernel
theorem dX1_takeBackLast_15 : decode cX1_takeBackLast 15 = .ok (.invokevirtual 31, 3) := by decide +kernel
theorem dX1_takeBackLast_18 : decode cX1_takeBackLast 18 = .ok (.aload_n 1, 1) := by decide +kernel
theorem dX1_takeBackLast_19 : decode cX1_takeBackLast 19 = .ok (.invokevirtual 39, 3) := by decide +kernel
theorem dX1_takeBackLast_22 : decode cX1_takeBackLast 22 = .ok (.return_, 1) := by decide +kernel
theorem dX1_forgetAll_0 : decode cX1_forgetAll 0 = .ok (.aload_n 0, 1) := by decide +kernel
theorem dX1_forgetAll_1 : decode cX1_forgetAll 1 = .ok (.iconst 0, 1) := by decide +kernel
theorem dX1_forgetAll_2 : decode cX1_forgetAll 2 = .ok (.putfield 28, 3) := by decide +kernel
theorem dX1_forgetAll_5 : decode cX1_forgetAll 5 = .ok (.return_, 1) := by decide +kernel
theorem dX2_init_0 : decode cX2_init 0 = .ok (.aload_n 0, 1) := by decide +kernel
theorem dX2_init_1 : decode cX2_init 1 = .ok (.invokespecial 3, 3) := by decide +kernel
theorem dX2_init_4 : decode cX2_init 4 = .ok (.return_, 1) := by decide +kernel
theorem dX2_copy_0 : decode cX2_copy 0 = .ok (.aload_n 0, 1) := by decide +kernel
theorem dX2_copy_1 : decode cX2_copy 1 = .ok (.aload_n 1, 1) := by decide +kernel
theorem dX2_copy_2 : decode cX2_copy 2 = .ok (.getfield 9, 3) := by decide +kernel
theorem dX2_copy_5 : decode cX2_copy 5 = .ok (.putfield 9, 3) := by decide +kernel
theorem dX2_copy_8 : decode cX2_copy 8 = .ok (.aload_n 0, 1) := by decide +kernel
theorem dX2_copy_9 : decode cX2_copy 9 = .ok (.aload_n 1, 1) := by decide +kernel
theorem dX2_copy_10 : decode cX2_copy 10 = .ok (.getfield 15, 3) := by decide +kernel
theorem dX2_copy_13 : decode cX2_copy 13 = .ok (.putfield 15, 3) := by decide +kernel
theorem dX2_copy_16 : decode cX2_copy 16 = .ok (.aload_n 0, 1) := by decide +kernel
theorem dX2_copy_17 : decode cX2_copy 17 = .ok (.aload_n 1, 1) := by decide +kernel
theorem dX2_copy_18 : decode cX2_copy 18 = .ok (.getfield 18, 3) := by decide +kernel
theorem dX2_copy_21 : decode cX2_copy 21 = .ok (.putfield 18, 3) := by decide +kernel
theorem dX2_copy_24 : decode cX2_copy 24 = .ok (.aload_n 0, 1) := by decide +kernel
theorem dX2_copy_25 : decode cX2_copy 25 = .ok (.aload_n 1, 1) := by decide +kernel
theorem dX2_copy_26 : decode cX2_copy 26 = .ok (.getfield 21, 3) := by decide +kernel
theorem dX2_copy_29 : decode cX2_copy 29 = .ok (.putfield 21, 3) := by decide +kernel
theorem dX2_copy_32 : decode cX2_copy 32 = .ok (.aload_n 0, 1) := by decide +kernel
theorem dX2_copy_33 : decode cX2_copy 33 = .ok (.aload_n 1, 1) := by decide +kernel
theorem dX2_copy_34 : decode cX2_copy 34 = .ok (.getfield 24, 3) := by decide +kernel
theorem dX2_copy_37 : decode cX2_copy 37 = .ok (.putfield 24, 3) := by decide +kernel
theorem dX2_copy_40 : decode cX2_copy 40 = .ok (.aload_n 0, 1) := by decide +kernel
theorem dX2_copy_41 : decode cX2_copy 41 = .ok (.aload_n 1, 1) := by decide +kernel
theorem dX2_copy_42 : decode cX2_copy 42 = .ok (.getfield 27, 3) := by decide +kernel
theorem dX2_copy_45 : decode cX2_copy 45 = .ok (.putfield 27, 3) := by decide +kernel
theorem dX2_copy_48 : decode cX2_copy 48 = .ok (.aload_n 0, 1) := by decide +kernel
theorem dX2_copy_49 : decode cX2_copy 49 = .ok (.aload_n 1, 1) := by decide +kernel
theorem dX2_copy_50 : decode cX2_copy 50 = .ok (.getfield 30, 3) := by decide +kernel
theorem dX2_copy_53 : decode cX2_copy 53 = .ok (.putfield 30, 3) := by decide +kernel
theorem dX2_copy_56 : decode cX2_copy 56 = .ok (.return_, 1) := by decide +kernel
theorem dX2_isFull_0 : decode cX2_isFull 0 = .ok (.aload_n 0, 1) := by decide +kernel
theorem dX2_isFull_1 : decode cX2_isFull 1 = .ok (.getfield 24, 3) := by decide +kernel
theorem dX2_isFull_4 : decode cX2_isFull 4 = .ok (.aload_n 0, 1) := by decide +kernel
theorem dX2_isFull_5 : decode cX2_isFull 5 = .ok (.getfield 27, 3) := by decide +kernel
theorem dX2_isFull_8 : decode cX2_isFull 8 = .ok (.if_icmp .ne 7, 3) := by decide +kernel
theorem dX2_isFull_11 : decode cX2_isFull 11 = .ok (.iconst 1, 1) := by decide +kernel
theorem dX2_isFull_12 : decode cX2_isFull 12 = .ok (.goto 4, 3) := by decide +kernel
theorem dX2_isFull_15 : decode cX2_isFull 15 = .ok (.iconst 0, 1) := by decide +kernel
theorem dX2_isFull_16 : decode cX2_isFull 16 = .ok (.ireturn, 1) := by decide +kernel
theorem dX2_flip_0 : decode cX2_flip 0 = .ok (.aload_n 0, 1) := by decide +kernel
theorem dX2_flip_1 : decode cX2_flip 1 = .ok (.aload_n 0, 1) := by decide +kernel
theorem dX2_flip_2 : decode cX2_flip 2 = .ok (.getfield 30, 3) := by decide +kernel
theorem dX2_flip_5 : decode cX2_flip 5 = .ok (.ifCond .ne 7, 3) := by decide +kernel
theorem dX2_flip_8 : decode cX2_flip 8 = .ok (.iconst 1, 1) := by decide +kernel
theorem dX2_flip_9 : decode cX2_flip 9 = .ok (.goto 4, 3) := by decide +kernel
theorem dX2_flip_12 : decode cX2_flip 12 = .ok (.iconst 0, 1) := by decide +kernel
theorem dX2_flip_13 : decode cX2_flip 13 = .ok (.putfield 30, 3) := by decide +kernel
theorem dX2_flip_16 : decode cX2_flip 16 = .ok (.return_, 1) := by decide +kernel
theorem dX2_refill_0 : decode cX2_refill 0 = .ok (.aload_n 0, 1) := by decide +kernel
theorem dX2_refill_1 : decode cX2_refill 1 = .ok (.getfield 27, 3) := by decide +kernel
theorem dX2_refill_4 : decode cX2_refill 4 = .ok (.aload_n 0, 1) := by decide +kernel
theorem dX2_refill_5 : decode cX2_refill 5 = .ok (.getfield 24, 3) := by decide +kernel
theorem dX2_refill_8 : decode cX2_refill 8 = .ok (.isub, 1) := by decide +kernel
theorem dX2_refill_9 : decode cX2_refill 9 = .ok (.istore_n 1, 1) := by decide +kernel
theorem dX2_refill_10 : decode cX2_refill 10 = .ok (.aload_n 0, 1) := by decide +kernel
theorem dX2_refill_11 : decode cX2_refill 11 = .ok (.aload_n 0, 1) := by decide +kernel
theorem dX2_refill_12 : decode cX2_refill 12 = .ok (.getfield 27, 3) := by decide +kernel
theorem dX2_refill_15 : decode cX2_refill 15 = .ok (.putfield 24, 3) := by decide +kernel
theorem dX2_refill_18 : decode cX2_refill 18 = .ok (.iload_n 1, 1) := by decide +kernel
theorem dX2_refill_19 : decode cX2_refill 19 = .ok (.ireturn, 1) := by decide +kernel
theorem dX2_quarter_0 : decode cX2_quarter 0 = .ok (.aload_n 0, 1) := by decide +kernel
theorem dX2_quarter_1 : decode cX2_quarter 1 = .ok (.getfield 18, 3) := by decide +kernel
theorem dX2_quarter_4 : decode cX2_quarter 4 = .ok (.istore_n 1, 1) := by decide +kernel
theorem dX2_quarter_5 : decode cX2_quarter 5 = .ok (.aload_n 0, 1) := by decide +kernel
theorem dX2_quarter_6 : decode cX2_quarter 6 = .ok (.aload_n 0, 1) := by decide +kernel
theorem dX2_quarter_7 : decode cX2_quarter 7 = .ok (.getfield 21, 3) := by decide +kernel
theorem dX2_quarter_10 : decode cX2_quarter 10 = .ok (.ineg, 1) := by decide +kernel
theorem dX2_quarter_11 : decode cX2_quarter 11 = .ok (.putfield 18, 3) := by decide +kernel
theorem dX2_quarter_14 : decode cX2_quarter 14 = .ok (.aload_n 0, 1) := by decide +kernel
theorem dX2_quarter_15 : decode cX2_quarter 15 = .ok (.iload_n 1, 1) := by decide +kernel
theorem dX2_quarter_16 : decode cX2_quarter 16 = .ok (.putfield 21, 3) := by decide +kernel
theorem dX2_quarter_19 : decode cX2_quarter 19 = .ok (.return_, 1) := by decide +kernel
theorem dX2_toldNib_0 : decode cX2_toldNib 0 = .ok (.bipush 10, 2) := by decide +kernel
theorem dX2_toldNib_2 : decode cX2_toldNib 2 = .ok (.aload_n 0, 1) := by decide +kernel
theorem dX2_toldNib_3 : decode cX2_toldNib 3 = .ok (.getfield 18, 3) := by decide +kernel
theorem dX2_toldNib_6 : decode cX2_toldNib 6 = .ok (.iconst 3, 1) := by decide +kernel
theorem dX2_toldNib_7 : decode cX2_toldNib 7 = .ok (.iadd, 1) := by decide +kernel
theorem dX2_toldNib_8 : decode cX2_toldNib 8 = .ok (.imul, 1) := by decide +kernel
theorem dX2_toldNib_9 : decode cX2_toldNib 9 = .ok (.aload_n 0, 1) := by decide +kernel
theorem dX2_toldNib_10 : decode cX2_toldNib 10 = .ok (.getfield 21, 3) := by decide +kernel
theorem dX2_toldNib_13 : decode cX2_toldNib 13 = .ok (.iadd, 1) := by decide +kernel
theorem dX2_toldNib_14 : decode cX2_toldNib 14 = .ok (.iconst 3, 1) := by decide +kernel
theorem dX2_toldNib_15 : decode cX2_toldNib 15 = .ok (.iadd, 1) := by decide +kernel
theorem dX2_toldNib_16 : decode cX2_toldNib 16 = .ok (.ireturn, 1) := by decide +kernel
theorem dX2_across_0 : decode cX2_across 0 = .ok (.iload_n 1, 1) := by decide +kernel
theorem dX2_across_1 : decode cX2_across 1 = .ok (.invokestatic 34, 3) := by decide +kernel
theorem dX2_across_4 : decode cX2_across 4 = .ok (.ifCond .ne 5, 3) := by decide +kernel
theorem dX2_across_7 : decode cX2_across 7 = .ok (.iconst 0, 1) := by decide +kernel
theorem dX2_across_8 : decode cX2_across 8 = .ok (.ireturn, 1) := by decide +kernel
theorem dX2_across_9 : decode cX2_across 9 = .ok (.getstatic 38, 3) := by decide +kernel
theorem dX2_across_12 : decode cX2_across 12 = .ok (.iload_n 1, 1) := by decide +kernel
theorem dX2_across_13 : decode cX2_across 13 = .ok (.iaload, 1) := by decide +kernel
theorem dX2_across_14 : decode cX2_across 14 = .ok (.aload_n 0, 1) := by decide +kernel
theorem dX2_across_15 : decode cX2_across 15 = .ok (.getfield 21, 3) := by decide +kernel
theorem dX2_across_18 : decode cX2_across 18 = .ok (.imul, 1) := by decide +kernel
theorem dX2_across_19 : decode cX2_across 19 = .ok (.getstatic 42, 3) := by decide +kernel
theorem dX2_across_22 : decode cX2_across 22 = .ok (.iload_n 1, 1) := by decide +kernel
theorem dX2_across_23 : decode cX2_across 23 = .ok (.iaload, 1) := by decide +kernel
theorem dX2_across_24 : decode cX2_across 24 = .ok (.aload_n 0, 1) := by decide +kernel
theorem dX2_across_25 : decode cX2_across 25 = .ok (.getfield 18, 3) := by decide +kernel
theorem dX2_across_28 : decode cX2_across 28 = .ok (.imul, 1) := by decide +kernel
theorem dX2_across_29 : decode cX2_across 29 = .ok (.isub, 1) := by decide +kernel
theorem dX2_across_30 : decode cX2_across 30 = .ok (.invokestatic 45, 3) := by decide +kernel
theorem dX2_across_33 : decode cX2_across 33 = .ok (.istore_n 2, 1) := by decide +kernel
theorem dX2_across_34 : decode cX2_across 34 = .ok (.aload_n 0, 1) := by decide +kernel
theorem dX2_across_35 : decode cX2_across 35 = .ok (.getfield 15, 3) := by decide +kernel
theorem dX2_across_38 : decode cX2_across 38 = .ok (.tableswitch 62 0 2 #[26, 28, 58], 26) := by decide +kernel
theorem dX2_across_64 : decode cX2_across 64 = .ok (.iload_n 2, 1) := by decide +kernel
theorem dX2_across_65 : decode cX2_across 65 = .ok (.ireturn, 1) := by decide +kernel
theorem dX2_across_66 : decode cX2_across 66 = .ok (.getstatic 42, 3) := by decide +kernel
theorem dX2_across_69 : decode cX2_across 69 = .ok (.iload_n 1, 1) := by decide +kernel
theorem dX2_across_70 : decode cX2_across 70 = .ok (.iaload, 1) := by decide +kernel
theorem dX2_across_71 : decode cX2_across 71 = .ok (.ifCond .ge 23, 3) := by decide +kernel
theorem dX2_across_74 : decode cX2_across 74 = .ok (.iconst 1, 1) := by decide +kernel
theorem dX2_across_75 : decode cX2_across 75 = .ok (.aload_n 0, 1) := by decide +kernel
theorem dX2_across_76 : decode cX2_across 76 = .ok (.getfield 18, 3) := by decide +kernel
theorem dX2_across_79 : decode cX2_across 79 = .ok (.invokestatic 45, 3) := by decide +kernel
theorem dX2_across_82 : decode cX2_across 82 = .ok (.iadd, 1) := by decide +kernel
theorem dX2_across_83 : decode cX2_across 83 = .ok (.aload_n 0, 1) := by decide +kernel
theorem dX2_across_84 : decode cX2_across 84 = .ok (.getfield 21, 3) := by decide +kernel
theorem dX2_across_87 : decode cX2_across 87 = .ok (.invokestatic 45, 3) := by decide +kernel
theorem dX2_across_90 : decode cX2_across 90 = .ok (.iadd, 1) := by decide +kernel
theorem dX2_across_91 : decode cX2_across 91 = .ok (.goto 4, 3) := by decide +kernel
theorem dX2_across_94 : decode cX2_across 94 = .ok (.iconst 1, 1) := by decide +kernel
theorem dX2_across_95 : decode cX2_across 95 = .ok (.ireturn, 1) := by decide +kernel
theorem dX2_across_96 : decode cX2_across 96 = .ok (.iconst 1, 1) := by decide +kernel
theorem dX2_across_97 : decode cX2_across 97 = .ok (.iload_n 2, 1) := by decide +kernel
theorem dX2_across_98 : decode cX2_across 98 = .ok (.iadd, 1) := by decide +kernel
theorem dX2_across_99 : decode cX2_across 99 = .ok (.ireturn, 1) := by decide +kernel
theorem dX2_across_100 : decode cX2_across 100 = .ok (.iconst 2, 1) := by decide +kernel
theorem dX2_across_101 : decode cX2_across 101 = .ok (.iconst 1, 1) := by decide +kernel
theorem dX2_across_102 : decode cX2_across 102 = .ok (.iload_n 2, 1) := by decide +kernel
theorem dX2_across_103 : decode cX2_across 103 = .ok (.iadd, 1) := by decide +kernel
theorem dX2_across_104 : decode cX2_across 104 = .ok (.invokestatic 51, 3) := by decide +kernel
theorem dX2_across_107 : decode cX2_across 107 = .ok (.ireturn, 1) := by decide +kernel
theorem dX2_lays_0 : decode cX2_lays 0 = .ok (.aload_n 0, 1) := by decide +kernel
theorem dX2_lays_1 : decode cX2_lays 1 = .ok (.getfield 30, 3) := by decide +kernel
theorem dX2_lays_4 : decode cX2_lays 4 = .ok (.ifCond .eq 15, 3) := by decide +kernel
theorem dX2_lays_7 : decode cX2_lays 7 = .ok (.aload_n 0, 1) := by decide +kernel
theorem dX2_lays_8 : decode cX2_lays 8 = .ok (.iload_n 1, 1) := by decide +kernel
theorem dX2_lays_9 : decode cX2_lays 9 = .ok (.invokevirtual 55, 3) := by decide +kernel
theorem dX2_lays_12 : decode cX2_lays 12 = .ok (.iload_n 2, 1) := by decide +kernel
theorem dX2_lays_13 : decode cX2_lays 13 = .ok (.invokestatic 51, 3) := by decide +kernel
theorem dX2_lays_16 : decode cX2_lays 16 = .ok (.goto 4, 3) := by decide +kernel
theorem dX2_lays_19 : decode cX2_lays 19 = .ok (.iconst 0, 1) := by decide +kernel
theorem dX2_lays_20 : decode cX2_lays 20 = .ok (.ireturn, 1) := by decide +kernel
theorem dX3_init_0 : decode cX3_init 0 = .ok (.aload_n 0, 1) := by decide +kernel
theorem dX3_init_1 : decode cX3_init 1 = .ok (.invokespecial 3, 3) := by decide +kernel
theorem dX3_init_4 : decode cX3_init 4 = .ok (.aload_n 0, 1) := by decide +kernel
theorem dX3_init_5 : decode cX3_init 5 = .ok (.bipush 6, 2) := by decide +kernel
theorem dX3_init_7 : decode cX3_init 7 = .ok (.newarray .int, 2) := by decide +kernel
theorem dX3_init_9 : decode cX3_init 9 = .ok (.putfield 9, 3) := by decide +kernel
theorem dX3_init_12 : decode cX3_init 12 = .ok (.aload_n 0, 1) := by decide +kernel
theorem dX3_init_13 : decode cX3_init 13 = .ok (.bipush 6, 2) := by decide +kernel
theorem dX3_init_15 : decode cX3_init 15 = .ok (.newarray .int, 2) := by decide +kernel
theorem dX3_init_17 : decode cX3_init 17 = .ok (.putfield 15, 3) := by decide +kernel
theorem dX3_init_20 : decode cX3_init 20 = .ok (.aload_n 0, 1) := by decide +kernel
theorem dX3_init_21 : decode cX3_init 21 = .ok (.new 18, 3) := by decide +kernel
theorem dX3_init_24 : decode cX3_init 24 = .ok (.dup, 1) := by decide +kernel
theorem dX3_init_25 : decode cX3_init 25 = .ok (.invokespecial 20, 3) := by decide +kernel
theorem dX3_init_28 : decode cX3_init 28 = .ok (.putfield 21, 3) := by decide +kernel
theorem dX3_init_31 : decode cX3_init 31 = .ok (.return_, 1) := by decide +kernel
theorem dX3_add_0 : decode cX3_add 0 = .ok (.aload_n 0, 1) := by decide +kernel
theorem dX3_add_1 : decode cX3_add 1 = .ok (.getfield 25, 3) := by decide +kernel
theorem dX3_add_4 : decode cX3_add 4 = .ok (.ifCond .lt 12, 3) := by decide +kernel
theorem dX3_add_7 : decode cX3_add 7 = .ok (.aload_n 0, 1) := by decide +kernel
theorem dX3_add_8 : decode cX3_add 8 = .ok (.getfield 25, 3) := by decide +kernel
theorem dX3_add_11 : decode cX3_add 11 = .ok (.bipush 6, 2) := by decide +kernel
theorem dX3_add_13 : decode cX3_add 13 = .ok (.if_icmp .lt 5, 3) := by decide +kernel
theorem dX3_add_16 : decode cX3_add 16 = .ok (.iconst 0, 1) := by decide +kernel
theorem dX3_add_17 : decode cX3_add 17 = .ok (.ireturn, 1) := by decide +kernel
theorem dX3_add_18 : decode cX3_add 18 = .ok (.aload_n 0, 1) := by decide +kernel
theorem dX3_add_19 : decode cX3_add 19 = .ok (.getfield 9, 3) := by decide +kernel
theorem dX3_add_22 : decode cX3_add 22 = .ok (.aload_n 0, 1) := by decide +kernel
theorem dX3_add_23 : decode cX3_add 23 = .ok (.getfield 25, 3) := by decide +kernel
theorem dX3_add_26 : decode cX3_add 26 = .ok (.iload_n 1, 1) := by decide +kernel
theorem dX3_add_27 : decode cX3_add 27 = .ok (.iastore, 1) := by decide +kernel
theorem dX3_add_28 : decode cX3_add 28 = .ok (.aload_n 0, 1) := by decide +kernel
theorem dX3_add_29 : decode cX3_add 29 = .ok (.getfield 15, 3) := by decide +kernel
theorem dX3_add_32 : decode cX3_add 32 = .ok (.aload_n 0, 1) := by decide +kernel
theorem dX3_add_33 : decode cX3_add 33 = .ok (.getfield 25, 3) := by decide +kernel
theorem dX3_add_36 : decode cX3_add 36 = .ok (.iload_n 2, 1) := by decide +kernel
theorem dX3_add_37 : decode cX3_add 37 = .ok (.iastore, 1) := by decide +kernel
theorem dX3_add_38 : decode cX3_add 38 = .ok (.aload_n 0, 1) := by decide +kernel
theorem dX3_add_39 : decode cX3_add 39 = .ok (.dup, 1) := by decide +kernel
theorem dX3_add_40 : decode cX3_add 40 = .ok (.getfield 25, 3) := by decide +kernel
theorem dX3_add_43 : decode cX3_add 43 = .ok (.iconst 1, 1) := by decide +kernel
theorem dX3_add_44 : decode cX3_add 44 = .ok (.iadd, 1) := by decide +kernel
theorem dX3_add_45 : decode cX3_add 45 = .ok (.putfield 25, 3) := by decide +kernel
theorem dX3_add_48 : decode cX3_add 48 = .ok (.iconst 1, 1) := by decide +kernel
theorem dX3_add_49 : decode cX3_add 49 = .ok (.ireturn, 1) := by decide +kernel
theorem dX3_countNibs_0 : decode cX3_countNibs 0 = .ok (.iconst 0, 1) := by decide +kernel
theorem dX3_countNibs_1 : decode cX3_countNibs 1 = .ok (.istore_n 1, 1) := by decide +kernel
theorem dX3_countNibs_2 : decode cX3_countNibs 2 = .ok (.iconst 0, 1) := by decide +kernel
theorem dX3_countNibs_3 : decode cX3_countNibs 3 = .ok (.istore_n 2, 1) := by decide +kernel
theorem dX3_countNibs_4 : decode cX3_countNibs 4 = .ok (.iload_n 2, 1) := by decide +kernel
theorem dX3_countNibs_5 : decode cX3_countNibs 5 = .ok (.bipush 6, 2) := by decide +kernel
theorem dX3_countNibs_7 : decode cX3_countNibs 7 = .ok (.if_icmp .gt 39, 3) := by decide +kernel
theorem dX3_countNibs_10 : decode cX3_countNibs 10 = .ok (.iconst 0, 1) := by decide +kernel
theorem dX3_countNibs_11 : decode cX3_countNibs 11 = .ok (.istore_n 3, 1) := by decide +kernel
theorem dX3_countNibs_12 : decode cX3_countNibs 12 = .ok (.iload_n 3, 1) := by decide +kernel
theorem dX3_countNibs_13 : decode cX3_countNibs 13 = .ok (.bipush 6, 2) := by decide +kernel
theorem dX3_countNibs_15 : decode cX3_countNibs 15 = .ok (.if_icmp .gt 25, 3) := by decide +kernel
theorem dX3_countNibs_18 : decode cX3_countNibs 18 = .ok (.aload_n 0, 1) := by decide +kernel
theorem dX3_countNibs_19 : decode cX3_countNibs 19 = .ok (.iload_n 2, 1) := by decide +kernel
theorem dX3_countNibs_20 : decode cX3_countNibs 20 = .ok (.iconst 3, 1) := by decide +kernel
theorem dX3_countNibs_21 : decode cX3_countNibs 21 = .ok (.isub, 1) := by decide +kernel
theorem dX3_countNibs_22 : decode cX3_countNibs 22 = .ok (.iload_n 3, 1) := by decide +kernel
theorem dX3_countNibs_23 : decode cX3_countNibs 23 = .ok (.iconst 3, 1) := by decide +kernel
theorem dX3_countNibs_24 : decode cX3_countNibs 24 = .ok (.isub, 1) := by decide +kernel
theorem dX3_countNibs_25 : decode cX3_countNibs 25 = .ok (.invokevirtual 29, 3) := by decide +kernel
theorem dX3_countNibs_28 : decode cX3_countNibs 28 = .ok (.ifCond .eq 6, 3) := by decide +kernel
theorem dX3_countNibs_31 : decode cX3_countNibs 31 = .ok (.iinc 1 1, 3) := by decide +kernel
theorem dX3_countNibs_34 : decode cX3_countNibs 34 = .ok (.iinc 3 1, 3) := by decide +kernel
theorem dX3_countNibs_37 : decode cX3_countNibs 37 = .ok (.goto (-25), 3) := by decide +kernel
theorem dX3_countNibs_40 : decode cX3_countNibs 40 = .ok (.iinc 2 1, 3) := by decide +kernel
theorem dX3_countNibs_43 : decode cX3_countNibs 43 = .ok (.goto (-39), 3) := by decide +kernel
theorem dX3_countNibs_46 : decode cX3_countNibs 46 = .ok (.iload_n 1, 1) := by decide +kernel
theorem dX3_countNibs_47 : decode cX3_countNibs 47 = .ok (.ireturn, 1) := by decide +kernel
theorem dX3_firstNib_0 : decode cX3_firstNib 0 = .ok (.iconst 0, 1) := by decide +kernel
theorem dX3_firstNib_1 : decode cX3_firstNib 1 = .ok (.istore_n 1, 1) := by decide +kernel
theorem dX3_firstNib_2 : decode cX3_firstNib 2 = .ok (.iload_n 1, 1) := by decide +kernel
theorem dX3_firstNib_3 : decode cX3_firstNib 3 = .ok (.bipush 6, 2) := by decide +kernel
theorem dX3_firstNib_5 : decode cX3_firstNib 5 = .ok (.if_icmp .gt 43, 3) := by decide +kernel
theorem dX3_firstNib_8 : decode cX3_firstNib 8 = .ok (.iconst 0, 1) := by decide +kernel
theorem dX3_firstNib_9 : decode cX3_firstNib 9 = .ok (.istore_n 2, 1) := by decide +kernel
theorem dX3_firstNib_10 : decode cX3_firstNib 10 = .ok (.iload_n 2, 1) := by decide +kernel
theorem dX3_firstNib_11 : decode cX3_firstNib 11 = .ok (.bipush 6, 2) := by decide +kernel
theorem dX3_firstNib_13 : decode cX3_firstNib 13 = .ok (.if_icmp .gt 29, 3) := by decide +kernel
theorem dX3_firstNib_16 : decode cX3_firstNib 16 = .ok (.aload_n 0, 1) := by decide +kernel
theorem dX3_firstNib_17 : decode cX3_firstNib 17 = .ok (.iload_n 1, 1) := by decide +kernel
theorem dX3_firstNib_18 : decode cX3_firstNib 18 = .ok (.iconst 3, 1) := by decide +kernel
theorem dX3_firstNib_19 : decode cX3_firstNib 19 = .ok (.isub, 1) := by decide +kernel
theorem dX3_firstNib_20 : decode cX3_firstNib 20 = .ok (.iload_n 2, 1) := by decide +kernel
theorem dX3_firstNib_21 : decode cX3_firstNib 21 = .ok (.iconst 3, 1) := by decide +kernel
theorem dX3_firstNib_22 : decode cX3_firstNib 22 = .ok (.isub, 1) := by decide +kernel
theorem dX3_firstNib_23 : decode cX3_firstNib 23 = .ok (.invokevirtual 29, 3) := by decide +kernel
theorem dX3_firstNib_26 : decode cX3_firstNib 26 = .ok (.ifCond .eq 10, 3) := by decide +kernel
theorem dX3_firstNib_29 : decode cX3_firstNib 29 = .ok (.bipush 10, 2) := by decide +kernel
theorem dX3_firstNib_31 : decode cX3_firstNib 31 = .ok (.iload_n 1, 1) := by decide +kernel
theorem dX3_firstNib_32 : decode cX3_firstNib 32 = .ok (.imul, 1) := by decide +kernel
theorem dX3_firstNib_33 : decode cX3_firstNib 33 = .ok (.iload_n 2, 1) := by decide +kernel
theorem dX3_firstNib_34 : decode cX3_firstNib 34 = .ok (.iadd, 1) := by decide +kernel
theorem dX3_firstNib_35 : decode cX3_firstNib 35 = .ok (.ireturn, 1) := by decide +kernel
theorem dX3_firstNib_36 : decode cX3_firstNib 36 = .ok (.iinc 2 1, 3) := by decide +kernel
theorem dX3_firstNib_39 : decode cX3_firstNib 39 = .ok (.goto (-29), 3) := by decide +kernel
theorem dX3_firstNib_42 : decode cX3_firstNib 42 = .ok (.iinc 1 1, 3) := by decide +kernel
theorem dX3_firstNib_45 : decode cX3_firstNib 45 = .ok (.goto (-43), 3) := by decide +kernel
theorem dX3_firstNib_48 : decode cX3_firstNib 48 = .ok (.bipush (-9), 2) := by decide +kernel
theorem dX3_firstNib_50 : decode cX3_firstNib 50 = .ok (.ireturn, 1) := by decide +kernel
theorem dX3_fits_0 : decode cX3_fits 0 = .ok (.iload_n 1, 1) := by decide +kernel
theorem dX3_fits_1 : decode cX3_fits 1 = .ok (.ifCond .ne 9, 3) := by decide +kernel
theorem dX3_fits_4 : decode cX3_fits 4 = .ok (.iload_n 2, 1) := by decide +kernel
theorem dX3_fits_5 : decode cX3_fits 5 = .ok (.ifCond .ne 5, 3) := by decide +kernel
theorem dX3_fits_8 : decode cX3_fits 8 = .ok (.iconst 0, 1) := by decide +kernel
theorem dX3_fits_9 : decode cX3_fits 9 = .ok (.ireturn, 1) := by decide +kernel
theorem dX3_fits_10 : decode cX3_fits 10 = .ok (.aload_n 0, 1) := by decide +kernel
theorem dX3_fits_11 : decode cX3_fits 11 = .ok (.getfield 21, 3) := by decide +kernel
theorem dX3_fits_14 : decode cX3_fits 14 = .ok (.iload_n 1, 1) := by decide +kernel
theorem dX3_fits_15 : decode cX3_fits 15 = .ok (.putfield 33, 3) := by decide +kernel
theorem dX3_fits_18 : decode cX3_fits 18 = .ok (.aload_n 0, 1) := by decide +kernel
theorem dX3_fits_19 : decode cX3_fits 19 = .ok (.getfield 21, 3) := by decide +kernel
theorem dX3_fits_22 : decode cX3_fits 22 = .ok (.iload_n 2, 1) := by decide +kernel
theorem dX3_fits_23 : decode cX3_fits 23 = .ok (.putfield 36, 3) := by decide +kernel
theorem dX3_fits_26 : decode cX3_fits 26 = .ok (.iconst 0, 1) := by decide +kernel
theorem dX3_fits_27 : decode cX3_fits 27 = .ok (.istore_n 3, 1) := by decide +kernel
theorem dX3_fits_28 : decode cX3_fits 28 = .ok (.iload_n 3, 1) := by decide +kernel
theorem dX3_fits_29 : decode cX3_fits 29 = .ok (.aload_n 0, 1) := by decide +kernel
theorem dX3_fits_30 : decode cX3_fits 30 = .ok (.getfield 25, 3) := by decide +kernel
theorem dX3_fits_33 : decode cX3_fits 33 = .ok (.if_icmp .ge 39, 3) := by decide +kernel
theorem dX3_fits_36 : decode cX3_fits 36 = .ok (.iload_n 3, 1) := by decide +kernel
theorem dX3_fits_37 : decode cX3_fits 37 = .ok (.bipush 6, 2) := by decide +kernel
theorem dX3_fits_39 : decode cX3_fits 39 = .ok (.if_icmp .ge 33, 3) := by decide +kernel
theorem dX3_fits_42 : decode cX3_fits 42 = .ok (.aload_n 0, 1) := by decide +kernel
theorem dX3_fits_43 : decode cX3_fits 43 = .ok (.getfield 21, 3) := by decide +kernel
theorem dX3_fits_46 : decode cX3_fits 46 = .ok (.aload_n 0, 1) := by decide +kernel
theorem dX3_fits_47 : decode cX3_fits 47 = .ok (.getfield 9, 3) := by decide +kernel
theorem dX3_fits_50 : decode cX3_fits 50 = .ok (.iload_n 3, 1) := by decide +kernel
theorem dX3_fits_51 : decode cX3_fits 51 = .ok (.iaload, 1) := by decide +kernel
theorem dX3_fits_52 : decode cX3_fits 52 = .ok (.invokevirtual 39, 3) := by decide +kernel
theorem dX3_fits_55 : decode cX3_fits 55 = .ok (.aload_n 0, 1) := by decide +kernel
theorem dX3_fits_56 : decode cX3_fits 56 = .ok (.getfield 15, 3) := by decide +kernel
theorem dX3_fits_59 : decode cX3_fits 59 = .ok (.iload_n 3, 1) := by decide +kernel
theorem dX3_fits_60 : decode cX3_fits 60 = .ok (.iaload, 1) := by decide +kernel
theorem dX3_fits_61 : decode cX3_fits 61 = .ok (.if_icmp .eq 5, 3) := by decide +kernel
theorem dX3_fits_64 : decode cX3_fits 64 = .ok (.iconst 0, 1) := by decide +kernel
theorem dX3_fits_65 : decode cX3_fits 65 = .ok (.ireturn, 1) := by decide +kernel
theorem dX3_fits_66 : decode cX3_fits 66 = .ok (.iinc 3 1, 3) := by decide +kernel
theorem dX3_fits_69 : decode cX3_fits 69 = .ok (.goto (-41), 3) := by decide +kernel
theorem dX3_fits_72 : decode cX3_fits 72 = .ok (.iconst 1, 1) := by decide +kernel
theorem dX3_fits_73 : decode cX3_fits 73 = .ok (.ireturn, 1) := by decide +kernel
theorem dX4_init_0 : decode cX4_init 0 = .ok (.aload_n 0, 1) := by decide +kernel
theorem dX4_init_1 : decode cX4_init 1 = .ok (.invokespecial 3, 3) := by decide +kernel
theorem dX4_init_4 : decode cX4_init 4 = .ok (.aload_n 0, 1) := by decide +kernel
theorem dX4_init_5 : decode cX4_init 5 = .ok (.iconst 4, 1) := by decide +kernel
theorem dX4_init_6 : decode cX4_init 6 = .ok (.anewarray 9, 3) := by decide +kernel
theorem dX4_init_9 : decode cX4_init 9 = .ok (.putfield 11, 3) := by decide +kernel
theorem dX4_init_12 : decode cX4_init 12 = .ok (.aload_n 0, 1) := by decide +kernel
theorem dX4_init_13 : decode cX4_init 13 = .ok (.bipush 25, 2) := by decide +kernel
theorem dX4_init_15 : decode cX4_init 15 = .ok (.newarray .int, 2) := by decide +kernel
theorem dX4_init_17 : decode cX4_init 17 = .ok (.putfield 17, 3) := by decide +kernel
theorem dX4_init_20 : decode cX4_init 20 = .ok (.iconst 0, 1) := by decide +kernel
theorem dX4_init_21 : decode cX4_init 21 = .ok (.istore_n 1, 1) := by decide +kernel
theorem dX4_init_22 : decode cX4_init 22 = .ok (.iload_n 1, 1) := by decide +kernel
theorem dX4_init_23 : decode cX4_init 23 = .ok (.iconst 4, 1) := by decide +kernel
theorem dX4_init_24 : decode cX4_init 24 = .ok (.if_icmp .ge 22, 3) := by decide +kernel
theorem dX4_init_27 : decode cX4_init 27 = .ok (.aload_n 0, 1) := by decide +kernel
theorem dX4_init_28 : decode cX4_init 28 = .ok (.getfield 11, 3) := by decide +kernel
theorem dX4_init_31 : decode cX4_init 31 = .ok (.iload_n 1, 1) := by decide +kernel
theorem dX4_init_32 : decode cX4_init 32 = .ok (.new 9, 3) := by decide +kernel
theorem dX4_init_35 : decode cX4_init 35 = .ok (.dup, 1) := by decide +kernel
theorem dX4_init_36 : decode cX4_init 36 = .ok (.invokespecial 21, 3) := by decide +kernel
theorem dX4_init_39 : decode cX4_init 39 = .ok (.aastore, 1) := by decide +kernel
theorem dX4_init_40 : decode cX4_init 40 = .ok (.iinc 1 1, 3) := by decide +kernel
theorem dX4_init_43 : decode cX4_init 43 = .ok (.goto (-21), 3) := by decide +kernel
theorem dX4_init_46 : decode cX4_init 46 = .ok (.return_, 1) := by decide +kernel
theorem dX4_clear_0 : decode cX4_clear 0 = .ok (.aload_n 0, 1) := by decide +kernel
theorem dX4_clear_1 : decode cX4_clear 1 = .ok (.iconst 0, 1) := by decide +kernel
theorem dX4_clear_2 : decode cX4_clear 2 = .ok (.putfield 22, 3) := by decide +kernel
theorem dX4_clear_5 : decode cX4_clear 5 = .ok (.aload_n 0, 1) := by decide +kernel
theorem dX4_clear_6 : decode cX4_clear 6 = .ok (.iconst 0, 1) := by decide +kernel
theorem dX4_clear_7 : decode cX4_clear 7 = .ok (.putfield 26, 3) := by decide +kernel
theorem dX4_clear_10 : decode cX4_clear 10 = .ok (.aload_n 0, 1) := by decide +kernel
theorem dX4_clear_11 : decode cX4_clear 11 = .ok (.getfield 17, 3) := by decide +kernel
theorem dX4_clear_14 : decode cX4_clear 14 = .ok (.iconst 0, 1) := by decide +kernel
theorem dX4_clear_15 : decode cX4_clear 15 = .ok (.invokestatic 29, 3) := by decide +kernel
theorem dX4_clear_18 : decode cX4_clear 18 = .ok (.return_, 1) := by decide +kernel
theorem dX4_copy_0 : decode cX4_copy 0 = .ok (.aload_n 0, 1) := by decide +kernel
theorem dX4_copy_1 : decode cX4_copy 1 = .ok (.aload_n 1, 1) := by decide +kernel
theorem dX4_copy_2 : decode cX4_copy 2 = .ok (.getfield 22, 3) := by decide +kernel
theorem dX4_copy_5 : decode cX4_copy 5 = .ok (.putfield 22, 3) := by decide +kernel
theorem dX4_copy_8 : decode cX4_copy 8 = .ok (.aload_n 0, 1) := by decide +kernel
theorem dX4_copy_9 : decode cX4_copy 9 = .ok (.aload_n 1, 1) := by decide +kernel
theorem dX4_copy_10 : decode cX4_copy 10 = .ok (.getfield 26, 3) := by decide +kernel
theorem dX4_copy_13 : decode cX4_copy 13 = .ok (.putfield 26, 3) := by decide +kernel
theorem dX4_copy_16 : decode cX4_copy 16 = .ok (.aload_n 1, 1) := by decide +kernel
theorem dX4_copy_17 : decode cX4_copy 17 = .ok (.getfield 17, 3) := by decide +kernel
theorem dX4_copy_20 : decode cX4_copy 20 = .ok (.iconst 0, 1) := by decide +kernel
theorem dX4_copy_21 : decode cX4_copy 21 = .ok (.aload_n 0, 1) := by decide +kernel
theorem dX4_copy_22 : decode cX4_copy 22 = .ok (.getfield 17, 3) := by decide +kernel
theorem dX4_copy_25 : decode cX4_copy 25 = .ok (.iconst 0, 1) := by decide +kernel
theorem dX4_copy_26 : decode cX4_copy 26 = .ok (.bipush 25, 2) := by decide +kernel
theorem dX4_copy_28 : decode cX4_copy 28 = .ok (.invokestatic 35, 3) := by decide +kernel
theorem dX4_copy_31 : decode cX4_copy 31 = .ok (.iconst 0, 1) := by decide +kernel
theorem dX4_copy_32 : decode cX4_copy 32 = .ok (.istore_n 2, 1) := by decide +kernel
theorem dX4_copy_33 : decode cX4_copy 33 = .ok (.iload_n 2, 1) := by decide +kernel
theorem dX4_copy_34 : decode cX4_copy 34 = .ok (.aload_n 0, 1) := by decide +kernel
theorem dX4_copy_35 : decode cX4_copy 35 = .ok (.getfield 22, 3) := by decide +kernel
theorem dX4_copy_38 : decode cX4_copy 38 = .ok (.if_icmp .ge 29, 3) := by decide +kernel
theorem dX4_copy_41 : decode cX4_copy 41 = .ok (.iload_n 2, 1) := by decide +kernel
theorem dX4_copy_42 : decode cX4_copy 42 = .ok (.iconst 4, 1) := by decide +kernel
theorem dX4_copy_43 : decode cX4_copy 43 = .ok (.if_icmp .ge 24, 3) := by decide +kernel
theorem dX4_copy_46 : decode cX4_copy 46 = .ok (.aload_n 0, 1) := by decide +kernel
theorem dX4_copy_47 : decode cX4_copy 47 = .ok (.getfield 11, 3) := by decide +kernel
theorem dX4_copy_50 : decode cX4_copy 50 = .ok (.iload_n 2, 1) := by decide +kernel
theorem dX4_copy_51 : decode cX4_copy 51 = .ok (.aaload, 1) := by decide +kernel
theorem dX4_copy_52 : decode cX4_copy 52 = .ok (.aload_n 1, 1) := by decide +kernel
theorem dX4_copy_53 : decode cX4_copy 53 = .ok (.getfield 11, 3) := by decide +kernel
theorem dX4_copy_56 : decode cX4_copy 56 = .ok (.iload_n 2, 1) := by decide +kernel
theorem dX4_copy_57 : decode cX4_copy 57 = .ok (.aaload, 1) := by decide +kernel
theorem dX4_copy_58 : decode cX4_copy 58 = .ok (.invokevirtual 41, 3) := by decide +kernel
theorem dX4_copy_61 : decode cX4_copy 61 = .ok (.iinc 2 1, 3) := by decide +kernel
theorem dX4_copy_64 : decode cX4_copy 64 = .ok (.goto (-31), 3) := by decide +kernel
theorem dX4_copy_67 : decode cX4_copy 67 = .ok (.return_, 1) := by decide +kernel
theorem dX4_addPen_0 : decode cX4_addPen 0 = .ok (.aload_n 0, 1) := by decide +kernel
theorem dX4_addPen_1 : decode cX4_addPen 1 = .ok (.getfield 22, 3) := by decide +kernel
theorem dX4_addPen_4 : decode cX4_addPen 4 = .ok (.ifCond .lt 11, 3) := by decide +kernel
theorem dX4_addPen_7 : decode cX4_addPen 7 = .ok (.aload_n 0, 1) := by decide +kernel
theorem dX4_addPen_8 : decode cX4_addPen 8 = .ok (.getfield 22, 3) := by decide +kernel
theorem dX4_addPen_11 : decode cX4_addPen 11 = .ok (.iconst 4, 1) := by decide +kernel
theorem dX4_addPen_12 : decode cX4_addPen 12 = .ok (.if_icmp .lt 5, 3) := by decide +kernel
theorem dX4_addPen_15 : decode cX4_addPen 15 = .ok (.aconst_null, 1) := by decide +kernel
theorem dX4_addPen_16 : decode cX4_addPen 16 = .ok (.areturn, 1) := by decide +kernel
theorem dX4_addPen_17 : decode cX4_addPen 17 = .ok (.aload_n 0, 1) := by decide +kernel
theorem dX4_addPen_18 : decode cX4_addPen 18 = .ok (.dup, 1) := by decide +kernel
theorem dX4_addPen_19 : decode cX4_addPen 19 = .ok (.getfield 22, 3) := by decide +kernel
theorem dX4_addPen_22 : decode cX4_addPen 22 = .ok (.iconst 1, 1) := by decide +kernel
theorem dX4_addPen_23 : decode cX4_addPen 23 = .ok (.iadd, 1) := by decide +kernel
theorem dX4_addPen_24 : decode cX4_addPen 24 = .ok (.putfield 22, 3) := by decide +kernel
theorem dX4_addPen_27 : decode cX4_addPen 27 = .ok (.aload_n 0, 1) := by decide +kernel
theorem dX4_addPen_28 : decode cX4_addPen 28 = .ok (.getfield 11, 3) := by decide +kernel
theorem dX4_addPen_31 : decode cX4_addPen 31 = .ok (.aload_n 0, 1) := by decide +kernel
theorem dX4_addPen_32 : decode cX4_addPen 32 = .ok (.getfield 22, 3) := by decide +kernel
theorem dX4_addPen_35 : decode cX4_addPen 35 = .ok (.iconst 1, 1) := by decide +kernel
theorem dX4_addPen_36 : decode cX4_addPen 36 = .ok (.isub, 1) := by decide +kernel
theorem dX4_addPen_37 : decode cX4_addPen 37 = .ok (.aaload, 1) := by decide +kernel
theorem dX4_addPen_38 : decode cX4_addPen 38 = .ok (.areturn, 1) := by decide +kernel
theorem dX4_find_0 : decode cX4_find 0 = .ok (.iload_n 1, 1) := by decide +kernel
theorem dX4_find_1 : decode cX4_find 1 = .ok (.ifCond .lt 25, 3) := by decide +kernel
theorem dX4_find_4 : decode cX4_find 4 = .ok (.iload_n 1, 1) := by decide +kernel
theorem dX4_find_5 : decode cX4_find 5 = .ok (.aload_n 0, 1) := by decide +kernel
theorem dX4_find_6 : decode cX4_find 6 = .ok (.getfield 22, 3) := by decide +kernel
theorem dX4_find_9 : decode cX4_find 9 = .ok (.if_icmp .ge 17, 3) := by decide +kernel
theorem dX4_find_12 : decode cX4_find 12 = .ok (.iload_n 1, 1) := by decide +kernel
theorem dX4_find_13 : decode cX4_find 13 = .ok (.iconst 4, 1) := by decide +kernel
theorem dX4_find_14 : decode cX4_find 14 = .ok (.if_icmp .ge 12, 3) := by decide +kernel
theorem dX4_find_17 : decode cX4_find 17 = .ok (.aload_n 0, 1) := by decide +kernel
theorem dX4_find_18 : decode cX4_find 18 = .ok (.getfield 11, 3) := by decide +kernel
theorem dX4_find_21 : decode cX4_find 21 = .ok (.iload_n 1, 1) := by decide +kernel
theorem dX4_find_22 : decode cX4_find 22 = .ok (.aaload, 1) := by decide +kernel
theorem dX4_find_23 : decode cX4_find 23 = .ok (.goto 4, 3) := by decide +kernel
theorem dX4_find_26 : decode cX4_find 26 = .ok (.aconst_null, 1) := by decide +kernel
theorem dX4_find_27 : decode cX4_find 27 = .ok (.areturn, 1) := by decide +kernel
theorem dX4_inkOf_0 : decode cX4_inkOf 0 = .ok (.aload_n 0, 1) := by decide +kernel
theorem dX4_inkOf_1 : decode cX4_inkOf 1 = .ok (.iload_n 1, 1) := by decide +kernel
theorem dX4_inkOf_2 : decode cX4_inkOf 2 = .ok (.invokevirtual 45, 3) := by decide +kernel
theorem dX4_inkOf_5 : decode cX4_inkOf 5 = .ok (.astore_n 2, 1) := by decide +kernel
theorem dX4_inkOf_6 : decode cX4_inkOf 6 = .ok (.aload_n 2, 1) := by decide +kernel
theorem dX4_inkOf_7 : decode cX4_inkOf 7 = .ok (.ifnonnull 7, 3) := by decide +kernel
theorem dX4_inkOf_10 : decode cX4_inkOf 10 = .ok (.iconst 0, 1) := by decide +kernel
theorem dX4_inkOf_11 : decode cX4_inkOf 11 = .ok (.goto 7, 3) := by decide +kernel
theorem dX4_inkOf_14 : decode cX4_inkOf 14 = .ok (.aload_n 2, 1) := by decide +kernel
theorem dX4_inkOf_15 : decode cX4_inkOf 15 = .ok (.getfield 49, 3) := by decide +kernel
theorem dX4_inkOf_18 : decode cX4_inkOf 18 = .ok (.ireturn, 1) := by decide +kernel
theorem dX4_inkOn_0 : decode cX4_inkOn 0 = .ok (.iload_n 1, 1) := by decide +kernel
theorem dX4_inkOn_1 : decode cX4_inkOn 1 = .ok (.invokestatic 51, 3) := by decide +kernel
theorem dX4_inkOn_4 : decode cX4_inkOn 4 = .ok (.ifCond .eq 12, 3) := by decide +kernel
theorem dX4_inkOn_7 : decode cX4_inkOn 7 = .ok (.aload_n 0, 1) := by decide +kernel
theorem dX4_inkOn_8 : decode cX4_inkOn 8 = .ok (.getfield 17, 3) := by decide +kernel
theorem dX4_inkOn_11 : decode cX4_inkOn 11 = .ok (.iload_n 1, 1) := by decide +kernel
theorem dX4_inkOn_12 : decode cX4_inkOn 12 = .ok (.iaload, 1) := by decide +kernel
theorem dX4_inkOn_13 : decode cX4_inkOn 13 = .ok (.goto 4, 3) := by decide +kernel
theorem dX4_inkOn_16 : decode cX4_inkOn 16 = .ok (.iconst 0, 1) := by decide +kernel
theorem dX4_inkOn_17 : decode cX4_inkOn 17 = .ok (.ireturn, 1) := by decide +kernel
theorem dX4_setInk_0 : decode cX4_setInk 0 = .ok (.iload_n 1, 1) := by decide +kernel
theorem dX4_setInk_1 : decode cX4_setInk 1 = .ok (.invokestatic 51, 3) := by decide +kernel
theorem dX4_setInk_4 : decode cX4_setInk 4 = .ok (.ifCond .eq 10, 3) := by decide +kernel
theorem dX4_setInk_7 : decode cX4_setInk 7 = .ok (.aload_n 0, 1) := by decide +kernel
theorem dX4_setInk_8 : decode cX4_setInk 8 = .ok (.getfield 17, 3) := by decide +kernel
theorem dX4_setInk_11 : decode cX4_setInk 11 = .ok (.iload_n 1, 1) := by decide +kernel
theorem dX4_setInk_12 : decode cX4_setInk 12 = .ok (.iload_n 2, 1) := by decide +kernel
theorem dX4_setInk_13 : decode cX4_setInk 13 = .ok (.iastore, 1) := by decide +kernel
theorem dX4_setInk_14 : decode cX4_setInk 14 = .ok (.return_, 1) := by decide +kernel
theorem dX4_clean_0 : decode cX4_clean 0 = .ok (.aload_n 0, 1) := by decide +kernel
theorem dX4_clean_1 : decode cX4_clean 1 = .ok (.iload_n 1, 1) := by decide +kernel
theorem dX4_clean_2 : decode cX4_clean 2 = .ok (.invokevirtual 55, 3) := by decide +kernel
theorem dX4_clean_5 : decode cX4_clean 5 = .ok (.istore_n 2, 1) := by decide +kernel
theorem dX4_clean_6 : decode cX4_clean 6 = .ok (.aload_n 0, 1) := by decide +kernel
theorem dX4_clean_7 : decode cX4_clean 7 = .ok (.iload_n 1, 1) := by decide +kernel
theorem dX4_clean_8 : decode cX4_clean 8 = .ok (.iconst 0, 1) := by decide +kernel
theorem dX4_clean_9 : decode cX4_clean 9 = .ok (.invokevirtual 59, 3) := by decide +kernel
theorem dX4_clean_12 : decode cX4_clean 12 = .ok (.iload_n 2, 1) := by decide +kernel
theorem dX4_clean_13 : decode cX4_clean 13 = .ok (.ireturn, 1) := by decide +kernel
theorem dX4_move_0 : decode cX4_move 0 = .ok (.aload_n 1, 1) := by decide +kernel
theorem dX4_move_1 : decode cX4_move 1 = .ok (.getfield 63, 3) := by decide +kernel
theorem dX4_move_4 : decode cX4_move 4 = .ok (.iload_n 2, 1) := by decide +kernel
theorem dX4_move_5 : decode cX4_move 5 = .ok (.invokestatic 66, 3) := by decide +kernel
theorem dX4_move_8 : decode cX4_move 8 = .ok (.istore_n 3, 1) := by decide +kernel
theorem dX4_move_9 : decode cX4_move 9 = .ok (.iload_n 3, 1) := by decide +kernel
theorem dX4_move_10 : decode cX4_move 10 = .ok (.bipush (-9), 2) := by decide +kernel
theorem dX4_move_12 : decode cX4_move 12 = .ok (.if_icmp .ne 6, 3) := by decide +kernel
theorem dX4_move_15 : decode cX4_move 15 = .ok (.bipush (-9), 2) := by decide +kernel
theorem dX4_move_17 : decode cX4_move 17 = .ok (.ireturn, 1) := by decide +kernel
theorem dX4_move_18 : decode cX4_move 18 = .ok (.aload_n 1, 1) := by decide +kernel
theorem dX4_move_19 : decode cX4_move 19 = .ok (.iload_n 2, 1) := by decide +kernel
theorem dX4_move_20 : decode cX4_move 20 = .ok (.aload_n 1, 1) := by decide +kernel
theorem dX4_move_21 : decode cX4_move 21 = .ok (.getfield 49, 3) := by decide +kernel
theorem dX4_move_24 : decode cX4_move 24 = .ok (.invokevirtual 70, 3) := by decide +kernel
theorem dX4_move_27 : decode cX4_move 27 = .ok (.istore 4, 2) := by decide +kernel
theorem dX4_move_29 : decode cX4_move 29 = .ok (.aload_n 1, 1) := by decide +kernel
theorem dX4_move_30 : decode cX4_move 30 = .ok (.iload_n 3, 1) := by decide +kernel
theorem dX4_move_31 : decode cX4_move 31 = .ok (.putfield 63, 3) := by decide +kernel
theorem dX4_move_34 : decode cX4_move 34 = .ok (.aload_n 1, 1) := by decide +kernel
theorem dX4_move_35 : decode cX4_move 35 = .ok (.dup, 1) := by decide +kernel
theorem dX4_move_36 : decode cX4_move 36 = .ok (.getfield 49, 3) := by decide +kernel
theorem dX4_move_39 : decode cX4_move 39 = .ok (.iload 4, 2) := by decide +kernel
theorem dX4_move_41 : decode cX4_move 41 = .ok (.isub, 1) := by decide +kernel
theorem dX4_move_42 : decode cX4_move 42 = .ok (.putfield 49, 3) := by decide +kernel
theorem dX4_move_45 : decode cX4_move 45 = .ok (.aload_n 0, 1) := by decide +kernel
theorem dX4_move_46 : decode cX4_move 46 = .ok (.iload_n 3, 1) := by decide +kernel
theorem dX4_move_47 : decode cX4_move 47 = .ok (.bipush 99, 2) := by decide +kernel
theorem dX4_move_49 : decode cX4_move 49 = .ok (.aload_n 0, 1) := by decide +kernel
theorem dX4_move_50 : decode cX4_move 50 = .ok (.iload_n 3, 1) := by decide +kernel
theorem dX4_move_51 : decode cX4_move 51 = .ok (.invokevirtual 55, 3) := by decide +kernel
theorem dX4_move_54 : decode cX4_move 54 = .ok (.iload 4, 2) := by decide +kernel
theorem dX4_move_56 : decode cX4_move 56 = .ok (.iadd, 1) := by decide +kernel
theorem dX4_move_57 : decode cX4_move 57 = .ok (.invokestatic 73, 3) := by decide +kernel
theorem dX4_move_60 : decode cX4_move 60 = .ok (.invokevirtual 59, 3) := by decide +kernel
theorem dX4_move_63 : decode cX4_move 63 = .ok (.aload_n 0, 1) := by decide +kernel
theorem dX4_move_64 : decode cX4_move 64 = .ok (.dup, 1) := by decide +kernel
theorem dX4_move_65 : decode cX4_move 65 = .ok (.getfield 26, 3) := by decide +kernel
theorem dX4_move_68 : decode cX4_move 68 = .ok (.iconst 1, 1) := by decide +kernel
theorem dX4_move_69 : decode cX4_move 69 = .ok (.iadd, 1) := by decide +kernel
theorem dX4_move_70 : decode cX4_move 70 = .ok (.putfield 26, 3) := by decide +kernel
theorem dX4_move_73 : decode cX4_move 73 = .ok (.iload 4, 2) := by decide +kernel
theorem dX4_move_75 : decode cX4_move 75 = .ok (.ireturn, 1) := by decide +kernel
theorem dX4_follow_0 : decode cX4_follow 0 = .ok (.iload_n 3, 1) := by decide +kernel
theorem dX4_follow_1 : decode cX4_follow 1 = .ok (.aload_n 2, 1) := by decide +kernel
theorem dX4_follow_2 : decode cX4_follow 2 = .ok (.getfield 78, 3) := by decide +kernel
theorem dX4_follow_5 : decode cX4_follow 5 = .ok (.invokestatic 73, 3) := by decide +kernel
theorem dX4_follow_8 : decode cX4_follow 8 = .ok (.istore 4, 2) := by decide +kernel
theorem dX4_follow_10 : decode cX4_follow 10 = .ok (.iconst 0, 1) := by decide +kernel
theorem dX4_follow_11 : decode cX4_follow 11 = .ok (.istore 5, 2) := by decide +kernel
theorem dX4_follow_13 : decode cX4_follow 13 = .ok (.iload 5, 2) := by decide +kernel
theorem dX4_follow_15 : decode cX4_follow 15 = .ok (.iload 4, 2) := by decide +kernel
theorem dX4_follow_17 : decode cX4_follow 17 = .ok (.if_icmp .ge 32, 3) := by decide +kernel
theorem dX4_follow_20 : decode cX4_follow 20 = .ok (.aload_n 1, 1) := by decide +kernel
theorem dX4_follow_21 : decode cX4_follow 21 = .ok (.ifnull 19, 3) := by decide +kernel
theorem dX4_follow_24 : decode cX4_follow 24 = .ok (.aload_n 0, 1) := by decide +kernel
theorem dX4_follow_25 : decode cX4_follow 25 = .ok (.aload_n 1, 1) := by decide +kernel
theorem dX4_follow_26 : decode cX4_follow 26 = .ok (.aload_n 2, 1) := by decide +kernel
theorem dX4_follow_27 : decode cX4_follow 27 = .ok (.iload 5, 2) := by decide +kernel
theorem dX4_follow_29 : decode cX4_follow 29 = .ok (.invokevirtual 83, 3) := by decide +kernel
theorem dX4_follow_32 : decode cX4_follow 32 = .ok (.invokevirtual 86, 3) := by decide +kernel
theorem dX4_follow_35 : decode cX4_follow 35 = .ok (.bipush (-9), 2) := by decide +kernel
theorem dX4_follow_37 : decode cX4_follow 37 = .ok (.if_icmp .ne 6, 3) := by decide +kernel
theorem dX4_follow_40 : decode cX4_follow 40 = .ok (.iload 5, 2) := by decide +kernel
theorem dX4_follow_42 : decode cX4_follow 42 = .ok (.ireturn, 1) := by decide +kernel
theorem dX4_follow_43 : decode cX4_follow 43 = .ok (.iinc 5 1, 3) := by decide +kernel
theorem dX4_follow_46 : decode cX4_follow 46 = .ok (.goto (-33), 3) := by decide +kernel
theorem dX4_follow_49 : decode cX4_follow 49 = .ok (.iload 4, 2) := by decide +kernel
theorem dX4_follow_51 : decode cX4_follow 51 = .ok (.ireturn, 1) := by decide +kernel
theorem dX4_isBlack_0 : decode cX4_isBlack 0 = .ok (.aload_n 0, 1) := by decide +kernel
theorem dX4_isBlack_1 : decode cX4_isBlack 1 = .ok (.iload_n 1, 1) := by decide +kernel
theorem dX4_isBlack_2 : decode cX4_isBlack 2 = .ok (.invokevirtual 55, 3) := by decide +kernel
theorem dX4_isBlack_5 : decode cX4_isBlack 5 = .ok (.iconst 3, 1) := by decide +kernel
theorem dX4_isBlack_6 : decode cX4_isBlack 6 = .ok (.if_icmp .lt 7, 3) := by decide +kernel
theorem dX4_isBlack_9 : decode cX4_isBlack 9 = .ok (.iconst 1, 1) := by decide +kernel
theorem dX4_isBlack_10 : decode cX4_isBlack 10 = .ok (.goto 4, 3) := by decide +kernel
theorem dX4_isBlack_13 : decode cX4_isBlack 13 = .ok (.iconst 0, 1) := by decide +kernel
theorem dX4_isBlack_14 : decode cX4_isBlack 14 = .ok (.ireturn, 1) := by decide +kernel
theorem dX4_inkOnAll_0 : decode cX4_inkOnAll 0 = .ok (.iconst 0, 1) := by decide +kernel
theorem dX4_inkOnAll_1 : decode cX4_inkOnAll 1 = .ok (.istore_n 1, 1) := by decide +kernel
theorem dX4_inkOnAll_2 : decode cX4_inkOnAll 2 = .ok (.iconst 0, 1) := by decide +kernel
theorem dX4_inkOnAll_3 : decode cX4_inkOnAll 3 = .ok (.istore_n 2, 1) := by decide +kernel
theorem dX4_inkOnAll_4 : decode cX4_inkOnAll 4 = .ok (.iload_n 2, 1) := by decide +kernel
theorem dX4_inkOnAll_5 : decode cX4_inkOnAll 5 = .ok (.bipush 25, 2) := by decide +kernel
theorem dX4_inkOnAll_7 : decode cX4_inkOnAll 7 = .ok (.if_icmp .ge 18, 3) := by decide +kernel
theorem dX4_inkOnAll_10 : decode cX4_inkOnAll 10 = .ok (.iload_n 1, 1) := by decide +kernel
theorem dX4_inkOnAll_11 : decode cX4_inkOnAll 11 = .ok (.aload_n 0, 1) := by decide +kernel
theorem dX4_inkOnAll_12 : decode cX4_inkOnAll 12 = .ok (.getfield 17, 3) := by decide +kernel
theorem dX4_inkOnAll_15 : decode cX4_inkOnAll 15 = .ok (.iload_n 2, 1) := by decide +kernel
theorem dX4_inkOnAll_16 : decode cX4_inkOnAll 16 = .ok (.iaload, 1) := by decide +kernel
theorem dX4_inkOnAll_17 : decode cX4_inkOnAll 17 = .ok (.iadd, 1) := by decide +kernel
theorem dX4_inkOnAll_18 : decode cX4_inkOnAll 18 = .ok (.istore_n 1, 1) := by decide +kernel
theorem dX4_inkOnAll_19 : decode cX4_inkOnAll 19 = .ok (.iinc 2 1, 3) := by decide +kernel
theorem dX4_inkOnAll_22 : decode cX4_inkOnAll 22 = .ok (.goto (-18), 3) := by decide +kernel
theorem dX4_inkOnAll_25 : decode cX4_inkOnAll 25 = .ok (.iload_n 1, 1) := by decide +kernel
theorem dX4_inkOnAll_26 : decode cX4_inkOnAll 26 = .ok (.ireturn, 1) := by decide +kernel
theorem dX4_blackBits_0 : decode cX4_blackBits 0 = .ok (.iconst 0, 1) := by decide +kernel
theorem dX4_blackBits_1 : decode cX4_blackBits 1 = .ok (.istore_n 1, 1) := by decide +kernel
theorem dX4_blackBits_2 : decode cX4_blackBits 2 = .ok (.iconst 0, 1) := by decide +kernel
theorem dX4_blackBits_3 : decode cX4_blackBits 3 = .ok (.istore_n 2, 1) := by decide +kernel
theorem dX4_blackBits_4 : decode cX4_blackBits 4 = .ok (.iload_n 2, 1) := by decide +kernel
theorem dX4_blackBits_5 : decode cX4_blackBits 5 = .ok (.bipush 25, 2) := by decide +kernel
theorem dX4_blackBits_7 : decode cX4_blackBits 7 = .ok (.if_icmp .ge 23, 3) := by decide +kernel
theorem dX4_blackBits_10 : decode cX4_blackBits 10 = .ok (.aload_n 0, 1) := by decide +kernel
theorem dX4_blackBits_11 : decode cX4_blackBits 11 = .ok (.iload_n 2, 1) := by decide +kernel
theorem dX4_blackBits_12 : decode cX4_blackBits 12 = .ok (.invokevirtual 90, 3) := by decide +kernel
theorem dX4_blackBits_15 : decode cX4_blackBits 15 = .ok (.ifCond .eq 9, 3) := by decide +kernel
theorem dX4_blackBits_18 : decode cX4_blackBits 18 = .ok (.iload_n 1, 1) := by decide +kernel
theorem dX4_blackBits_19 : decode cX4_blackBits 19 = .ok (.iconst 1, 1) := by decide +kernel
theorem dX4_blackBits_20 : decode cX4_blackBits 20 = .ok (.iload_n 2, 1) := by decide +kernel
theorem dX4_blackBits_21 : decode cX4_blackBits 21 = .ok (.ishl, 1) := by decide +kernel
theorem dX4_blackBits_22 : decode cX4_blackBits 22 = .ok (.ior, 1) := by decide +kernel
theorem dX4_blackBits_23 : decode cX4_blackBits 23 = .ok (.istore_n 1, 1) := by decide +kernel
theorem dX4_blackBits_24 : decode cX4_blackBits 24 = .ok (.iinc 2 1, 3) := by decide +kernel
theorem dX4_blackBits_27 : decode cX4_blackBits 27 = .ok (.goto (-23), 3) := by decide +kernel
theorem dX4_blackBits_30 : decode cX4_blackBits 30 = .ok (.iload_n 1, 1) := by decide +kernel
theorem dX4_blackBits_31 : decode cX4_blackBits 31 = .ok (.ireturn, 1) := by decide +kernel
theorem dX4_downBits_0 : decode cX4_downBits 0 = .ok (.iconst 0, 1) := by decide +kernel
theorem dX4_downBits_1 : decode cX4_downBits 1 = .ok (.istore_n 1, 1) := by decide +kernel
theorem dX4_downBits_2 : decode cX4_downBits 2 = .ok (.iconst 0, 1) := by decide +kernel
theorem dX4_downBits_3 : decode cX4_downBits 3 = .ok (.istore_n 2, 1) := by decide +kernel
theorem dX4_downBits_4 : decode cX4_downBits 4 = .ok (.iload_n 2, 1) := by decide +kernel
theorem dX4_downBits_5 : decode cX4_downBits 5 = .ok (.aload_n 0, 1) := by decide +kernel
theorem dX4_downBits_6 : decode cX4_downBits 6 = .ok (.getfield 22, 3) := by decide +kernel
theorem dX4_downBits_9 : decode cX4_downBits 9 = .ok (.if_icmp .ge 32, 3) := by decide +kernel
theorem dX4_downBits_12 : decode cX4_downBits 12 = .ok (.iload_n 2, 1) := by decide +kernel
theorem dX4_downBits_13 : decode cX4_downBits 13 = .ok (.iconst 4, 1) := by decide +kernel
theorem dX4_downBits_14 : decode cX4_downBits 14 = .ok (.if_icmp .ge 27, 3) := by decide +kernel
theorem dX4_downBits_17 : decode cX4_downBits 17 = .ok (.aload_n 0, 1) := by decide +kernel
theorem dX4_downBits_18 : decode cX4_downBits 18 = .ok (.getfield 11, 3) := by decide +kernel
theorem dX4_downBits_21 : decode cX4_downBits 21 = .ok (.iload_n 2, 1) := by decide +kernel
theorem dX4_downBits_22 : decode cX4_downBits 22 = .ok (.aaload, 1) := by decide +kernel
theorem dX4_downBits_23 : decode cX4_downBits 23 = .ok (.getfield 93, 3) := by decide +kernel
theorem dX4_downBits_26 : decode cX4_downBits 26 = .ok (.ifCond .eq 9, 3) := by decide +kernel
theorem dX4_downBits_29 : decode cX4_downBits 29 = .ok (.iload_n 1, 1) := by decide +kernel
theorem dX4_downBits_30 : decode cX4_downBits 30 = .ok (.iconst 1, 1) := by decide +kernel
theorem dX4_downBits_31 : decode cX4_downBits 31 = .ok (.iload_n 2, 1) := by decide +kernel
theorem dX4_downBits_32 : decode cX4_downBits 32 = .ok (.ishl, 1) := by decide +kernel
theorem dX4_downBits_33 : decode cX4_downBits 33 = .ok (.ior, 1) := by decide +kernel
theorem dX4_downBits_34 : decode cX4_downBits 34 = .ok (.istore_n 1, 1) := by decide +kernel
theorem dX4_downBits_35 : decode cX4_downBits 35 = .ok (.iinc 2 1, 3) := by decide +kernel
theorem dX4_downBits_38 : decode cX4_downBits 38 = .ok (.goto (-34), 3) := by decide +kernel
theorem dX4_downBits_41 : decode cX4_downBits 41 = .ok (.iload_n 1, 1) := by decide +kernel
theorem dX4_downBits_42 : decode cX4_downBits 42 = .ok (.ireturn, 1) := by decide +kernel
theorem dX4_fullBits_0 : decode cX4_fullBits 0 = .ok (.iconst 0, 1) := by decide +kernel
theorem dX4_fullBits_1 : decode cX4_fullBits 1 = .ok (.istore_n 1, 1) := by decide +kernel
theorem dX4_fullBits_2 : decode cX4_fullBits 2 = .ok (.iconst 0, 1) := by decide +kernel
theorem dX4_fullBits_3 : decode cX4_fullBits 3 = .ok (.istore_n 2, 1) := by decide +kernel
theorem dX4_fullBits_4 : decode cX4_fullBits 4 = .ok (.iload_n 2, 1) := by decide +kernel
theorem dX4_fullBits_5 : decode cX4_fullBits 5 = .ok (.aload_n 0, 1) := by decide +kernel
theorem dX4_fullBits_6 : decode cX4_fullBits 6 = .ok (.getfield 22, 3) := by decide +kernel
theorem dX4_fullBits_9 : decode cX4_fullBits 9 = .ok (.if_icmp .ge 32, 3) := by decide +kernel
theorem dX4_fullBits_12 : decode cX4_fullBits 12 = .ok (.iload_n 2, 1) := by decide +kernel
theorem dX4_fullBits_13 : decode cX4_fullBits 13 = .ok (.iconst 4, 1) := by decide +kernel
theorem dX4_fullBits_14 : decode cX4_fullBits 14 = .ok (.if_icmp .ge 27, 3) := by decide +kernel
theorem dX4_fullBits_17 : decode cX4_fullBits 17 = .ok (.aload_n 0, 1) := by decide +kernel
theorem dX4_fullBits_18 : decode cX4_fullBits 18 = .ok (.getfield 11, 3) := by decide +kernel
theorem dX4_fullBits_21 : decode cX4_fullBits 21 = .ok (.iload_n 2, 1) := by decide +kernel
theorem dX4_fullBits_22 : decode cX4_fullBits 22 = .ok (.aaload, 1) := by decide +kernel
theorem dX4_fullBits_23 : decode cX4_fullBits 23 = .ok (.invokevirtual 97, 3) := by decide +kernel
theorem dX4_fullBits_26 : decode cX4_fullBits 26 = .ok (.ifCond .eq 9, 3) := by decide +kernel
theorem dX4_fullBits_29 : decode cX4_fullBits 29 = .ok (.iload_n 1, 1) := by decide +kernel
theorem dX4_fullBits_30 : decode cX4_fullBits 30 = .ok (.iconst 1, 1) := by decide +kernel
theorem dX4_fullBits_31 : decode cX4_fullBits 31 = .ok (.iload_n 2, 1) := by decide +kernel
theorem dX4_fullBits_32 : decode cX4_fullBits 32 = .ok (.ishl, 1) := by decide +kernel
theorem dX4_fullBits_33 : decode cX4_fullBits 33 = .ok (.ior, 1) := by decide +kernel
theorem dX4_fullBits_34 : decode cX4_fullBits 34 = .ok (.istore_n 1, 1) := by decide +kernel
theorem dX4_fullBits_35 : decode cX4_fullBits 35 = .ok (.iinc 2 1, 3) := by decide +kernel
theorem dX4_fullBits_38 : decode cX4_fullBits 38 = .ok (.goto (-34), 3) := by decide +kernel
theorem dX4_fullBits_41 : decode cX4_fullBits 41 = .ok (.iload_n 1, 1) := by decide +kernel
theorem dX4_fullBits_42 : decode cX4_fullBits 42 = .ok (.ireturn, 1) := by decide +kernel
theorem dX5_init_0 : decode cX5_init 0 = .ok (.aload_n 0, 1) := by decide +kernel
theorem dX5_init_1 : decode cX5_init 1 = .ok (.invokespecial 1, 3) := by decide +kernel
theorem dX5_init_4 : decode cX5_init 4 = .ok (.aload_n 0, 1) := by decide +kernel
theorem dX5_init_5 : decode cX5_init 5 = .ok (.new 7, 3) := by decide +kernel
theorem dX5_init_8 : decode cX5_init 8 = .ok (.dup, 1) := by decide +kernel
theorem dX5_init_9 : decode cX5_init 9 = .ok (.invokespecial 9, 3) := by decide +kernel
theorem dX5_init_12 : decode cX5_init 12 = .ok (.putfield 10, 3) := by decide +kernel
theorem dX5_init_15 : decode cX5_init 15 = .ok (.return_, 1) := by decide +kernel
theorem dX6_init_0 : decode cX6_init 0 = .ok (.aload_n 0, 1) := by decide +kernel
theorem dX6_init_1 : decode cX6_init 1 = .ok (.invokespecial 3, 3) := by decide +kernel
theorem dX6_init_4 : decode cX6_init 4 = .ok (.aload_n 0, 1) := by decide +kernel
theorem dX6_init_5 : decode cX6_init 5 = .ok (.bipush 48, 2) := by decide +kernel
theorem dX6_init_7 : decode cX6_init 7 = .ok (.newarray .int, 2) := by decide +kernel
theorem dX6_init_9 : decode cX6_init 9 = .ok (.putfield 9, 3) := by decide +kernel
theorem dX6_init_12 : decode cX6_init 12 = .ok (.return_, 1) := by decide +kernel
theorem dX6_add_0 : decode cX6_add 0 = .ok (.aload_n 0, 1) := by decide +kernel
theorem dX6_add_1 : decode cX6_add 1 = .ok (.getfield 15, 3) := by decide +kernel
theorem dX6_add_4 : decode cX6_add 4 = .ok (.ifCond .lt 12, 3) := by decide +kernel
theorem dX6_add_7 : decode cX6_add 7 = .ok (.aload_n 0, 1) := by decide +kernel
theorem dX6_add_8 : decode cX6_add 8 = .ok (.getfield 15, 3) := by decide +kernel
theorem dX6_add_11 : decode cX6_add 11 = .ok (.bipush 48, 2) := by decide +kernel
theorem dX6_add_13 : decode cX6_add 13 = .ok (.if_icmp .lt 5, 3) := by decide +kernel
theorem dX6_add_16 : decode cX6_add 16 = .ok (.iconst 0, 1) := by decide +kernel
theorem dX6_add_17 : decode cX6_add 17 = .ok (.ireturn, 1) := by decide +kernel
theorem dX6_add_18 : decode cX6_add 18 = .ok (.aload_n 0, 1) := by decide +kernel
theorem dX6_add_19 : decode cX6_add 19 = .ok (.getfield 9, 3) := by decide +kernel
theorem dX6_add_22 : decode cX6_add 22 = .ok (.aload_n 0, 1) := by decide +kernel
theorem dX6_add_23 : decode cX6_add 23 = .ok (.getfield 15, 3) := by decide +kernel
theorem dX6_add_26 : decode cX6_add 26 = .ok (.iload_n 1, 1) := by decide +kernel
theorem dX6_add_27 : decode cX6_add 27 = .ok (.iastore, 1) := by decide +kernel
theorem dX6_add_28 : decode cX6_add 28 = .ok (.aload_n 0, 1) := by decide +kernel
theorem dX6_add_29 : decode cX6_add 29 = .ok (.dup, 1) := by decide +kernel
theorem dX6_add_30 : decode cX6_add 30 = .ok (.getfield 15, 3) := by decide +kernel
theorem dX6_add_33 : decode cX6_add 33 = .ok (.iconst 1, 1) := by decide +kernel
theorem dX6_add_34 : decode cX6_add 34 = .ok (.iadd, 1) := by decide +kernel
theorem dX6_add_35 : decode cX6_add 35 = .ok (.putfield 15, 3) := by decide +kernel
theorem dX6_add_38 : decode cX6_add 38 = .ok (.iconst 1, 1) := by decide +kernel
theorem dX6_add_39 : decode cX6_add 39 = .ok (.ireturn, 1) := by decide +kernel
theorem dX6_letterAt_0 : decode cX6_letterAt 0 = .ok (.iload_n 1, 1) := by decide +kernel
theorem dX6_letterAt_1 : decode cX6_letterAt 1 = .ok (.ifCond .lt 26, 3) := by decide +kernel
theorem dX6_letterAt_4 : decode cX6_letterAt 4 = .ok (.iload_n 1, 1) := by decide +kernel
theorem dX6_letterAt_5 : decode cX6_letterAt 5 = .ok (.aload_n 0, 1) := by decide +kernel
theorem dX6_letterAt_6 : decode cX6_letterAt 6 = .ok (.getfield 15, 3) := by decide +kernel
theorem dX6_letterAt_9 : decode cX6_letterAt 9 = .ok (.if_icmp .ge 18, 3) := by decide +kernel
theorem dX6_letterAt_12 : decode cX6_letterAt 12 = .ok (.iload_n 1, 1) := by decide +kernel
theorem dX6_letterAt_13 : decode cX6_letterAt 13 = .ok (.bipush 48, 2) := by decide +kernel
theorem dX6_letterAt_15 : decode cX6_letterAt 15 = .ok (.if_icmp .ge 12, 3) := by decide +kernel
theorem dX6_letterAt_18 : decode cX6_letterAt 18 = .ok (.aload_n 0, 1) := by decide +kernel
theorem dX6_letterAt_19 : decode cX6_letterAt 19 = .ok (.getfield 9, 3) := by decide +kernel
theorem dX6_letterAt_22 : decode cX6_letterAt 22 = .ok (.iload_n 1, 1) := by decide +kernel
theorem dX6_letterAt_23 : decode cX6_letterAt 23 = .ok (.iaload, 1) := by decide +kernel
theorem dX6_letterAt_24 : decode cX6_letterAt 24 = .ok (.goto 5, 3) := by decide +kernel
theorem dX6_letterAt_27 : decode cX6_letterAt 27 = .ok (.bipush (-9), 2) := by decide +kernel
theorem dX6_letterAt_29 : decode cX6_letterAt 29 = .ok (.ireturn, 1) := by decide +kernel
theorem dX6_figureAt_0 : decode cX6_figureAt 0 = .ok (.aload_n 0, 1) := by decide +kernel
theorem dX6_figureAt_1 : decode cX6_figureAt 1 = .ok (.iload_n 1, 1) := by decide +kernel
theorem dX6_figureAt_2 : decode cX6_figureAt 2 = .ok (.invokevirtual 19, 3) := by decide +kernel
theorem dX6_figureAt_5 : decode cX6_figureAt 5 = .ok (.bipush 48, 2) := by decide +kernel
theorem dX6_figureAt_7 : decode cX6_figureAt 7 = .ok (.isub, 1) := by decide +kernel
theorem dX6_figureAt_8 : decode cX6_figureAt 8 = .ok (.ireturn, 1) := by decide +kernel
theorem dX6_findFault_0 : decode cX6_findFault 0 = .ok (.aload_n 0, 1) := by decide +kernel
theorem dX6_findFault_1 : decode cX6_findFault 1 = .ok (.iconst 0, 1) := by decide +kernel
theorem dX6_findFault_2 : decode cX6_findFault 2 = .ok (.invokevirtual 19, 3) := by decide +kernel
theorem dX6_findFault_5 : decode cX6_findFault 5 = .ok (.bipush 78, 2) := by decide +kernel
theorem dX6_findFault_7 : decode cX6_findFault 7 = .ok (.if_icmp .eq 5, 3) := by decide +kernel
theorem dX6_findFault_10 : decode cX6_findFault 10 = .ok (.iconst 0, 1) := by decide +kernel
theorem dX6_findFault_11 : decode cX6_findFault 11 = .ok (.ireturn, 1) := by decide +kernel
theorem dX6_findFault_12 : decode cX6_findFault 12 = .ok (.iconst 0, 1) := by decide +kernel
theorem dX6_findFault_13 : decode cX6_findFault 13 = .ok (.istore_n 1, 1) := by decide +kernel
theorem dX6_findFault_14 : decode cX6_findFault 14 = .ok (.iconst 0, 1) := by decide +kernel
theorem dX6_findFault_15 : decode cX6_findFault 15 = .ok (.istore_n 2, 1) := by decide +kernel
theorem dX6_findFault_16 : decode cX6_findFault 16 = .ok (.iconst 1, 1) := by decide +kernel
theorem dX6_findFault_17 : decode cX6_findFault 17 = .ok (.istore_n 3, 1) := by decide +kernel
theorem dX6_findFault_18 : decode cX6_findFault 18 = .ok (.iload_n 3, 1) := by decide +kernel
theorem dX6_findFault_19 : decode cX6_findFault 19 = .ok (.aload_n 0, 1) := by decide +kernel
theorem dX6_findFault_20 : decode cX6_findFault 20 = .ok (.getfield 15, 3) := by decide +kernel
theorem dX6_findFault_23 : decode cX6_findFault 23 = .ok (.if_icmp .ge 96, 3) := by decide +kernel
theorem dX6_findFault_26 : decode cX6_findFault 26 = .ok (.aload_n 0, 1) := by decide +kernel
theorem dX6_findFault_27 : decode cX6_findFault 27 = .ok (.iload_n 3, 1) := by decide +kernel
theorem dX6_findFault_28 : decode cX6_findFault 28 = .ok (.invokevirtual 19, 3) := by decide +kernel
theorem dX6_findFault_31 : decode cX6_findFault 31 = .ok (.istore 4, 2) := by decide +kernel
theorem dX6_findFault_33 : decode cX6_findFault 33 = .ok (.iload 4, 2) := by decide +kernel
theorem dX6_findFault_35 : decode cX6_findFault 35 = .ok (.bipush 80, 2) := by decide +kernel
theorem dX6_findFault_37 : decode cX6_findFault 37 = .ok (.if_icmp .ne 9, 3) := by decide +kernel
theorem dX6_findFault_40 : decode cX6_findFault 40 = .ok (.getstatic 23, 3) := by decide +kernel
theorem dX6_findFault_43 : decode cX6_findFault 43 = .ok (.goto 6, 3) := by decide +kernel
theorem dX6_findFault_46 : decode cX6_findFault 46 = .ok (.getstatic 26, 3) := by decide +kernel
theorem dX6_findFault_49 : decode cX6_findFault 49 = .ok (.astore 5, 2) := by decide +kernel
theorem dX6_findFault_51 : decode cX6_findFault 51 = .ok (.iload 4, 2) := by decide +kernel
theorem dX6_findFault_53 : decode cX6_findFault 53 = .ok (.bipush 80, 2) := by decide +kernel
theorem dX6_findFault_55 : decode cX6_findFault 55 = .ok (.if_icmp .ne 14, 3) := by decide +kernel
theorem dX6_findFault_58 : decode cX6_findFault 58 = .ok (.iload_n 1, 1) := by decide +kernel
theorem dX6_findFault_59 : decode cX6_findFault 59 = .ok (.iconst 4, 1) := by decide +kernel
theorem dX6_findFault_60 : decode cX6_findFault 60 = .ok (.if_icmp .ge 9, 3) := by decide +kernel
theorem dX6_findFault_63 : decode cX6_findFault 63 = .ok (.iinc 1 1, 3) := by decide +kernel
theorem dX6_findFault_66 : decode cX6_findFault 66 = .ok (.goto 23, 3) := by decide +kernel
theorem dX6_findFault_69 : decode cX6_findFault 69 = .ok (.iload 4, 2) := by decide +kernel
theorem dX6_findFault_71 : decode cX6_findFault 71 = .ok (.bipush 83, 2) := by decide +kernel
theorem dX6_findFault_73 : decode cX6_findFault 73 = .ok (.if_icmp .ne 14, 3) := by decide +kernel
theorem dX6_findFault_76 : decode cX6_findFault 76 = .ok (.iload_n 2, 1) := by decide +kernel
theorem dX6_findFault_77 : decode cX6_findFault 77 = .ok (.iconst 4, 1) := by decide +kernel
theorem dX6_findFault_78 : decode cX6_findFault 78 = .ok (.if_icmp .ge 9, 3) := by decide +kernel
theorem dX6_findFault_81 : decode cX6_findFault 81 = .ok (.iinc 2 1, 3) := by decide +kernel
theorem dX6_findFault_84 : decode cX6_findFault 84 = .ok (.goto 5, 3) := by decide +kernel
theorem dX6_findFault_87 : decode cX6_findFault 87 = .ok (.iload_n 3, 1) := by decide +kernel
theorem dX6_findFault_88 : decode cX6_findFault 88 = .ok (.ireturn, 1) := by decide +kernel
theorem dX6_findFault_89 : decode cX6_findFault 89 = .ok (.aload_n 0, 1) := by decide +kernel
theorem dX6_findFault_90 : decode cX6_findFault 90 = .ok (.iload_n 3, 1) := by decide +kernel
theorem dX6_findFault_91 : decode cX6_findFault 91 = .ok (.aload 5, 2) := by decide +kernel
theorem dX6_findFault_93 : decode cX6_findFault 93 = .ok (.invokevirtual 29, 3) := by decide +kernel
theorem dX6_findFault_96 : decode cX6_findFault 96 = .ok (.istore 6, 2) := by decide +kernel
theorem dX6_findFault_98 : decode cX6_findFault 98 = .ok (.iload 6, 2) := by decide +kernel
theorem dX6_findFault_100 : decode cX6_findFault 100 = .ok (.bipush (-9), 2) := by decide +kernel
theorem dX6_findFault_102 : decode cX6_findFault 102 = .ok (.if_icmp .eq 6, 3) := by decide +kernel
theorem dX6_findFault_105 : decode cX6_findFault 105 = .ok (.iload 6, 2) := by decide +kernel
theorem dX6_findFault_107 : decode cX6_findFault 107 = .ok (.ireturn, 1) := by decide +kernel
theorem dX6_findFault_108 : decode cX6_findFault 108 = .ok (.iload_n 3, 1) := by decide +kernel
theorem dX6_findFault_109 : decode cX6_findFault 109 = .ok (.iconst 1, 1) := by decide +kernel
theorem dX6_findFault_110 : decode cX6_findFault 110 = .ok (.aload 5, 2) := by decide +kernel
theorem dX6_findFault_112 : decode cX6_findFault 112 = .ok (.arraylength, 1) := by decide +kernel
theorem dX6_findFault_113 : decode cX6_findFault 113 = .ok (.iadd, 1) := by decide +kernel
theorem dX6_findFault_114 : decode cX6_findFault 114 = .ok (.iadd, 1) := by decide +kernel
theorem dX6_findFault_115 : decode cX6_findFault 115 = .ok (.istore_n 3, 1) := by decide +kernel
theorem dX6_findFault_116 : decode cX6_findFault 116 = .ok (.goto (-98), 3) := by decide +kernel
theorem dX6_findFault_119 : decode cX6_findFault 119 = .ok (.bipush (-9), 2) := by decide +kernel
theorem dX6_findFault_121 : decode cX6_findFault 121 = .ok (.ireturn, 1) := by decide +kernel
theorem dX6_findFaultIn_0 : decode cX6_findFaultIn 0 = .ok (.iconst 0, 1) := by decide +kernel
theorem dX6_findFaultIn_1 : decode cX6_findFaultIn 1 = .ok (.istore_n 3, 1) := by decide +kernel
theorem dX6_findFaultIn_2 : decode cX6_findFaultIn 2 = .ok (.iload_n 3, 1) := by decide +kernel
theorem dX6_findFaultIn_3 : decode cX6_findFaultIn 3 = .ok (.aload_n 2, 1) := by decide +kernel
theorem dX6_findFaultIn_4 : decode cX6_findFaultIn 4 = .ok (.arraylength, 1) := by decide +kernel
theorem dX6_findFaultIn_5 : decode cX6_findFaultIn 5 = .ok (.if_icmp .ge 57, 3) := by decide +kernel
theorem dX6_findFaultIn_8 : decode cX6_findFaultIn 8 = .ok (.iload_n 1, 1) := by decide +kernel
theorem dX6_findFaultIn_9 : decode cX6_findFaultIn 9 = .ok (.iconst 1, 1) := by decide +kernel
theorem dX6_findFaultIn_10 : decode cX6_findFaultIn 10 = .ok (.iadd, 1) := by decide +kernel
theorem dX6_findFaultIn_11 : decode cX6_findFaultIn 11 = .ok (.iload_n 3, 1) := by decide +kernel
theorem dX6_findFaultIn_12 : decode cX6_findFaultIn 12 = .ok (.iadd, 1) := by decide +kernel
theorem dX6_findFaultIn_13 : decode cX6_findFaultIn 13 = .ok (.istore 4, 2) := by decide +kernel
theorem dX6_findFaultIn_15 : decode cX6_findFaultIn 15 = .ok (.iload 4, 2) := by decide +kernel
theorem dX6_findFaultIn_17 : decode cX6_findFaultIn 17 = .ok (.aload_n 0, 1) := by decide +kernel
theorem dX6_findFaultIn_18 : decode cX6_findFaultIn 18 = .ok (.getfield 15, 3) := by decide +kernel
theorem dX6_findFaultIn_21 : decode cX6_findFaultIn 21 = .ok (.if_icmp .lt 8, 3) := by decide +kernel
theorem dX6_findFaultIn_24 : decode cX6_findFaultIn 24 = .ok (.aload_n 0, 1) := by decide +kernel
theorem dX6_findFaultIn_25 : decode cX6_findFaultIn 25 = .ok (.getfield 15, 3) := by decide +kernel
theorem dX6_findFaultIn_28 : decode cX6_findFaultIn 28 = .ok (.ireturn, 1) := by decide +kernel
theorem dX6_findFaultIn_29 : decode cX6_findFaultIn 29 = .ok (.aload_n 0, 1) := by decide +kernel
theorem dX6_findFaultIn_30 : decode cX6_findFaultIn 30 = .ok (.iload 4, 2) := by decide +kernel
theorem dX6_findFaultIn_32 : decode cX6_findFaultIn 32 = .ok (.invokevirtual 33, 3) := by decide +kernel
theorem dX6_findFaultIn_35 : decode cX6_findFaultIn 35 = .ok (.aload_n 2, 1) := by decide +kernel
theorem dX6_findFaultIn_36 : decode cX6_findFaultIn 36 = .ok (.iload_n 3, 1) := by decide +kernel
theorem dX6_findFaultIn_37 : decode cX6_findFaultIn 37 = .ok (.iaload, 1) := by decide +kernel
theorem dX6_findFaultIn_38 : decode cX6_findFaultIn 38 = .ok (.invokestatic 36, 3) := by decide +kernel
theorem dX6_findFaultIn_41 : decode cX6_findFaultIn 41 = .ok (.ifCond .eq 12, 3) := by decide +kernel
theorem dX6_findFaultIn_44 : decode cX6_findFaultIn 44 = .ok (.aload_n 0, 1) := by decide +kernel
theorem dX6_findFaultIn_45 : decode cX6_findFaultIn 45 = .ok (.iload_n 1, 1) := by decide +kernel
theorem dX6_findFaultIn_46 : decode cX6_findFaultIn 46 = .ok (.iload_n 3, 1) := by decide +kernel
theorem dX6_findFaultIn_47 : decode cX6_findFaultIn 47 = .ok (.invokevirtual 40, 3) := by decide +kernel
theorem dX6_findFaultIn_50 : decode cX6_findFaultIn 50 = .ok (.ifCond .eq 6, 3) := by decide +kernel
theorem dX6_findFaultIn_53 : decode cX6_findFaultIn 53 = .ok (.iload 4, 2) := by decide +kernel
theorem dX6_findFaultIn_55 : decode cX6_findFaultIn 55 = .ok (.ireturn, 1) := by decide +kernel
theorem dX6_findFaultIn_56 : decode cX6_findFaultIn 56 = .ok (.iinc 3 1, 3) := by decide +kernel
theorem dX6_findFaultIn_59 : decode cX6_findFaultIn 59 = .ok (.goto (-57), 3) := by decide +kernel
theorem dX6_findFaultIn_62 : decode cX6_findFaultIn 62 = .ok (.bipush (-9), 2) := by decide +kernel
theorem dX6_findFaultIn_64 : decode cX6_findFaultIn 64 = .ok (.ireturn, 1) := by decide +kernel
theorem dX6_isNoNib_0 : decode cX6_isNoNib 0 = .ok (.aload_n 0, 1) := by decide +kernel
theorem dX6_isNoNib_1 : decode cX6_isNoNib 1 = .ok (.iload_n 1, 1) := by decide +kernel
theorem dX6_isNoNib_2 : decode cX6_isNoNib 2 = .ok (.invokevirtual 19, 3) := by decide +kernel
theorem dX6_isNoNib_5 : decode cX6_isNoNib 5 = .ok (.bipush 80, 2) := by decide +kernel
theorem dX6_isNoNib_7 : decode cX6_isNoNib 7 = .ok (.if_icmp .ne 38, 3) := by decide +kernel
theorem dX6_isNoNib_10 : decode cX6_isNoNib 10 = .ok (.iload_n 2, 1) := by decide +kernel
theorem dX6_isNoNib_11 : decode cX6_isNoNib 11 = .ok (.iconst 4, 1) := by decide +kernel
theorem dX6_isNoNib_12 : decode cX6_isNoNib 12 = .ok (.if_icmp .ne 33, 3) := by decide +kernel
theorem dX6_isNoNib_15 : decode cX6_isNoNib 15 = .ok (.aload_n 0, 1) := by decide +kernel
theorem dX6_isNoNib_16 : decode cX6_isNoNib 16 = .ok (.iload_n 1, 1) := by decide +kernel
theorem dX6_isNoNib_17 : decode cX6_isNoNib 17 = .ok (.iconst 1, 1) := by decide +kernel
theorem dX6_isNoNib_18 : decode cX6_isNoNib 18 = .ok (.iadd, 1) := by decide +kernel
theorem dX6_isNoNib_19 : decode cX6_isNoNib 19 = .ok (.iconst 3, 1) := by decide +kernel
theorem dX6_isNoNib_20 : decode cX6_isNoNib 20 = .ok (.iadd, 1) := by decide +kernel
theorem dX6_isNoNib_21 : decode cX6_isNoNib 21 = .ok (.invokevirtual 33, 3) := by decide +kernel
theorem dX6_isNoNib_24 : decode cX6_isNoNib 24 = .ok (.iconst 3, 1) := by decide +kernel
theorem dX6_isNoNib_25 : decode cX6_isNoNib 25 = .ok (.if_icmp .ne 20, 3) := by decide +kernel
theorem dX6_isNoNib_28 : decode cX6_isNoNib 28 = .ok (.aload_n 0, 1) := by decide +kernel
theorem dX6_isNoNib_29 : decode cX6_isNoNib 29 = .ok (.iload_n 1, 1) := by decide +kernel
theorem dX6_isNoNib_30 : decode cX6_isNoNib 30 = .ok (.iconst 1, 1) := by decide +kernel
theorem dX6_isNoNib_31 : decode cX6_isNoNib 31 = .ok (.iadd, 1) := by decide +kernel
theorem dX6_isNoNib_32 : decode cX6_isNoNib 32 = .ok (.iconst 4, 1) := by decide +kernel
theorem dX6_isNoNib_33 : decode cX6_isNoNib 33 = .ok (.iadd, 1) := by decide +kernel
theorem dX6_isNoNib_34 : decode cX6_isNoNib 34 = .ok (.invokevirtual 33, 3) := by decide +kernel
theorem dX6_isNoNib_37 : decode cX6_isNoNib 37 = .ok (.iconst 3, 1) := by decide +kernel
theorem dX6_isNoNib_38 : decode cX6_isNoNib 38 = .ok (.if_icmp .ne 7, 3) := by decide +kernel
theorem dX6_isNoNib_41 : decode cX6_isNoNib 41 = .ok (.iconst 1, 1) := by decide +kernel
theorem dX6_isNoNib_42 : decode cX6_isNoNib 42 = .ok (.goto 4, 3) := by decide +kernel
theorem dX6_isNoNib_45 : decode cX6_isNoNib 45 = .ok (.iconst 0, 1) := by decide +kernel
theorem dX6_isNoNib_46 : decode cX6_isNoNib 46 = .ok (.ireturn, 1) := by decide +kernel
theorem dX6_layOut_0 : decode cX6_layOut 0 = .ok (.aload_n 1, 1) := by decide +kernel
theorem dX6_layOut_1 : decode cX6_layOut 1 = .ok (.invokevirtual 43, 3) := by decide +kernel
theorem dX6_layOut_4 : decode cX6_layOut 4 = .ok (.iconst 1, 1) := by decide +kernel
theorem dX6_layOut_5 : decode cX6_layOut 5 = .ok (.istore_n 2, 1) := by decide +kernel
theorem dX6_layOut_6 : decode cX6_layOut 6 = .ok (.iload_n 2, 1) := by decide +kernel
theorem dX6_layOut_7 : decode cX6_layOut 7 = .ok (.aload_n 0, 1) := by decide +kernel
theorem dX6_layOut_8 : decode cX6_layOut 8 = .ok (.getfield 15, 3) := by decide +kernel
theorem dX6_layOut_11 : decode cX6_layOut 11 = .ok (.if_icmp .ge 71, 3) := by decide +kernel
theorem dX6_layOut_14 : decode cX6_layOut 14 = .ok (.aload_n 0, 1) := by decide +kernel
theorem dX6_layOut_15 : decode cX6_layOut 15 = .ok (.iload_n 2, 1) := by decide +kernel
theorem dX6_layOut_16 : decode cX6_layOut 16 = .ok (.invokevirtual 19, 3) := by decide +kernel
theorem dX6_layOut_19 : decode cX6_layOut 19 = .ok (.bipush 80, 2) := by decide +kernel
theorem dX6_layOut_21 : decode cX6_layOut 21 = .ok (.if_icmp .ne 21, 3) := by decide +kernel
theorem dX6_layOut_24 : decode cX6_layOut 24 = .ok (.aload_n 0, 1) := by decide +kernel
theorem dX6_layOut_25 : decode cX6_layOut 25 = .ok (.aload_n 1, 1) := by decide +kernel
theorem dX6_layOut_26 : decode cX6_layOut 26 = .ok (.iload_n 2, 1) := by decide +kernel
theorem dX6_layOut_27 : decode cX6_layOut 27 = .ok (.invokevirtual 48, 3) := by decide +kernel
theorem dX6_layOut_30 : decode cX6_layOut 30 = .ok (.iload_n 2, 1) := by decide +kernel
theorem dX6_layOut_31 : decode cX6_layOut 31 = .ok (.iconst 1, 1) := by decide +kernel
theorem dX6_layOut_32 : decode cX6_layOut 32 = .ok (.getstatic 23, 3) := by decide +kernel
theorem dX6_layOut_35 : decode cX6_layOut 35 = .ok (.arraylength, 1) := by decide +kernel
theorem dX6_layOut_36 : decode cX6_layOut 36 = .ok (.iadd, 1) := by decide +kernel
theorem dX6_layOut_37 : decode cX6_layOut 37 = .ok (.iadd, 1) := by decide +kernel
theorem dX6_layOut_38 : decode cX6_layOut 38 = .ok (.istore_n 2, 1) := by decide +kernel
theorem dX6_layOut_39 : decode cX6_layOut 39 = .ok (.goto (-33), 3) := by decide +kernel
theorem dX6_layOut_42 : decode cX6_layOut 42 = .ok (.aload_n 1, 1) := by decide +kernel
theorem dX6_layOut_43 : decode cX6_layOut 43 = .ok (.iconst 5, 1) := by decide +kernel
theorem dX6_layOut_44 : decode cX6_layOut 44 = .ok (.aload_n 0, 1) := by decide +kernel
theorem dX6_layOut_45 : decode cX6_layOut 45 = .ok (.iload_n 2, 1) := by decide +kernel
theorem dX6_layOut_46 : decode cX6_layOut 46 = .ok (.iconst 2, 1) := by decide +kernel
theorem dX6_layOut_47 : decode cX6_layOut 47 = .ok (.iadd, 1) := by decide +kernel
theorem dX6_layOut_48 : decode cX6_layOut 48 = .ok (.invokevirtual 33, 3) := by decide +kernel
theorem dX6_layOut_51 : decode cX6_layOut 51 = .ok (.imul, 1) := by decide +kernel
theorem dX6_layOut_52 : decode cX6_layOut 52 = .ok (.aload_n 0, 1) := by decide +kernel
theorem dX6_layOut_53 : decode cX6_layOut 53 = .ok (.iload_n 2, 1) := by decide +kernel
theorem dX6_layOut_54 : decode cX6_layOut 54 = .ok (.iconst 1, 1) := by decide +kernel
theorem dX6_layOut_55 : decode cX6_layOut 55 = .ok (.iadd, 1) := by decide +kernel
theorem dX6_layOut_56 : decode cX6_layOut 56 = .ok (.invokevirtual 33, 3) := by decide +kernel
theorem dX6_layOut_59 : decode cX6_layOut 59 = .ok (.iadd, 1) := by decide +kernel
theorem dX6_layOut_60 : decode cX6_layOut 60 = .ok (.aload_n 0, 1) := by decide +kernel
theorem dX6_layOut_61 : decode cX6_layOut 61 = .ok (.iload_n 2, 1) := by decide +kernel
theorem dX6_layOut_62 : decode cX6_layOut 62 = .ok (.iconst 3, 1) := by decide +kernel
theorem dX6_layOut_63 : decode cX6_layOut 63 = .ok (.iadd, 1) := by decide +kernel
theorem dX6_layOut_64 : decode cX6_layOut 64 = .ok (.invokevirtual 33, 3) := by decide +kernel
theorem dX6_layOut_67 : decode cX6_layOut 67 = .ok (.invokevirtual 52, 3) := by decide +kernel
theorem dX6_layOut_70 : decode cX6_layOut 70 = .ok (.iload_n 2, 1) := by decide +kernel
theorem dX6_layOut_71 : decode cX6_layOut 71 = .ok (.iconst 1, 1) := by decide +kernel
theorem dX6_layOut_72 : decode cX6_layOut 72 = .ok (.getstatic 26, 3) := by decide +kernel
theorem dX6_layOut_75 : decode cX6_layOut 75 = .ok (.arraylength, 1) := by decide +kernel
theorem dX6_layOut_76 : decode cX6_layOut 76 = .ok (.iadd, 1) := by decide +kernel
theorem dX6_layOut_77 : decode cX6_layOut 77 = .ok (.iadd, 1) := by decide +kernel
theorem dX6_layOut_78 : decode cX6_layOut 78 = .ok (.istore_n 2, 1) := by decide +kernel
theorem dX6_layOut_79 : decode cX6_layOut 79 = .ok (.goto (-73), 3) := by decide +kernel
theorem dX6_layOut_82 : decode cX6_layOut 82 = .ok (.return_, 1) := by decide +kernel
theorem dX6_layPen_0 : decode cX6_layPen 0 = .ok (.aload_n 1, 1) := by decide +kernel
theorem dX6_layPen_1 : decode cX6_layPen 1 = .ok (.invokevirtual 56, 3) := by decide +kernel
theorem dX6_layPen_4 : decode cX6_layPen 4 = .ok (.astore_n 3, 1) := by decide +kernel
theorem dX6_layPen_5 : decode cX6_layPen 5 = .ok (.aload_n 3, 1) := by decide +kernel
theorem dX6_layPen_6 : decode cX6_layPen 6 = .ok (.ifnonnull 4, 3) := by decide +kernel
theorem dX6_layPen_9 : decode cX6_layPen 9 = .ok (.return_, 1) := by decide +kernel
theorem dX6_layPen_10 : decode cX6_layPen 10 = .ok (.aload_n 3, 1) := by decide +kernel
theorem dX6_layPen_11 : decode cX6_layPen 11 = .ok (.iconst 5, 1) := by decide +kernel
theorem dX6_layPen_12 : decode cX6_layPen 12 = .ok (.aload_n 0, 1) := by decide +kernel
theorem dX6_layPen_13 : decode cX6_layPen 13 = .ok (.iload_n 2, 1) := by decide +kernel
theorem dX6_layPen_14 : decode cX6_layPen 14 = .ok (.iconst 2, 1) := by decide +kernel
theorem dX6_layPen_15 : decode cX6_layPen 15 = .ok (.iadd, 1) := by decide +kernel
theorem dX6_layPen_16 : decode cX6_layPen 16 = .ok (.invokevirtual 33, 3) := by decide +kernel
theorem dX6_layPen_19 : decode cX6_layPen 19 = .ok (.imul, 1) := by decide +kernel
theorem dX6_layPen_20 : decode cX6_layPen 20 = .ok (.aload_n 0, 1) := by decide +kernel
theorem dX6_layPen_21 : decode cX6_layPen 21 = .ok (.iload_n 2, 1) := by decide +kernel
theorem dX6_layPen_22 : decode cX6_layPen 22 = .ok (.iconst 1, 1) := by decide +kernel
theorem dX6_layPen_23 : decode cX6_layPen 23 = .ok (.iadd, 1) := by decide +kernel
theorem dX6_layPen_24 : decode cX6_layPen 24 = .ok (.invokevirtual 33, 3) := by decide +kernel
theorem dX6_layPen_27 : decode cX6_layPen 27 = .ok (.iadd, 1) := by decide +kernel
theorem dX6_layPen_28 : decode cX6_layPen 28 = .ok (.putfield 60, 3) := by decide +kernel
theorem dX6_layPen_31 : decode cX6_layPen 31 = .ok (.aload_n 3, 1) := by decide +kernel
theorem dX6_layPen_32 : decode cX6_layPen 32 = .ok (.aload_n 0, 1) := by decide +kernel
theorem dX6_layPen_33 : decode cX6_layPen 33 = .ok (.iload_n 2, 1) := by decide +kernel
theorem dX6_layPen_34 : decode cX6_layPen 34 = .ok (.iconst 3, 1) := by decide +kernel
theorem dX6_layPen_35 : decode cX6_layPen 35 = .ok (.iadd, 1) := by decide +kernel
theorem dX6_layPen_36 : decode cX6_layPen 36 = .ok (.invokevirtual 33, 3) := by decide +kernel
theorem dX6_layPen_39 : decode cX6_layPen 39 = .ok (.putfield 65, 3) := by decide +kernel
theorem dX6_layPen_42 : decode cX6_layPen 42 = .ok (.aload_n 3, 1) := by decide +kernel
theorem dX6_layPen_43 : decode cX6_layPen 43 = .ok (.aload_n 0, 1) := by decide +kernel
theorem dX6_layPen_44 : decode cX6_layPen 44 = .ok (.iload_n 2, 1) := by decide +kernel
theorem dX6_layPen_45 : decode cX6_layPen 45 = .ok (.iconst 4, 1) := by decide +kernel
theorem dX6_layPen_46 : decode cX6_layPen 46 = .ok (.iadd, 1) := by decide +kernel
theorem dX6_layPen_47 : decode cX6_layPen 47 = .ok (.invokevirtual 33, 3) := by decide +kernel
theorem dX6_layPen_50 : decode cX6_layPen 50 = .ok (.iconst 3, 1) := by decide +kernel
theorem dX6_layPen_51 : decode cX6_layPen 51 = .ok (.isub, 1) := by decide +kernel
theorem dX6_layPen_52 : decode cX6_layPen 52 = .ok (.putfield 68, 3) := by decide +kernel
theorem dX6_layPen_55 : decode cX6_layPen 55 = .ok (.aload_n 3, 1) := by decide +kernel
theorem dX6_layPen_56 : decode cX6_layPen 56 = .ok (.aload_n 0, 1) := by decide +kernel
theorem dX6_layPen_57 : decode cX6_layPen 57 = .ok (.iload_n 2, 1) := by decide +kernel
theorem dX6_layPen_58 : decode cX6_layPen 58 = .ok (.iconst 5, 1) := by decide +kernel
theorem dX6_layPen_59 : decode cX6_layPen 59 = .ok (.iadd, 1) := by decide +kernel
theorem dX6_layPen_60 : decode cX6_layPen 60 = .ok (.invokevirtual 33, 3) := by decide +kernel
theorem dX6_layPen_63 : decode cX6_layPen 63 = .ok (.iconst 3, 1) := by decide +kernel
theorem dX6_layPen_64 : decode cX6_layPen 64 = .ok (.isub, 1) := by decide +kernel
theorem dX6_layPen_65 : decode cX6_layPen 65 = .ok (.putfield 71, 3) := by decide +kernel
theorem dX6_layPen_68 : decode cX6_layPen 68 = .ok (.aload_n 3, 1) := by decide +kernel
theorem dX6_layPen_69 : decode cX6_layPen 69 = .ok (.iconst 5, 1) := by decide +kernel
theorem dX6_layPen_70 : decode cX6_layPen 70 = .ok (.aload_n 0, 1) := by decide +kernel
theorem dX6_layPen_71 : decode cX6_layPen 71 = .ok (.iload_n 2, 1) := by decide +kernel
theorem dX6_layPen_72 : decode cX6_layPen 72 = .ok (.bipush 6, 2) := by decide +kernel
theorem dX6_layPen_74 : decode cX6_layPen 74 = .ok (.iadd, 1) := by decide +kernel
theorem dX6_layPen_75 : decode cX6_layPen 75 = .ok (.invokevirtual 33, 3) := by decide +kernel
theorem dX6_layPen_78 : decode cX6_layPen 78 = .ok (.imul, 1) := by decide +kernel
theorem dX6_layPen_79 : decode cX6_layPen 79 = .ok (.putfield 74, 3) := by decide +kernel
theorem dX6_layPen_82 : decode cX6_layPen 82 = .ok (.aload_n 3, 1) := by decide +kernel
theorem dX6_layPen_83 : decode cX6_layPen 83 = .ok (.aload_n 3, 1) := by decide +kernel
theorem dX6_layPen_84 : decode cX6_layPen 84 = .ok (.getfield 74, 3) := by decide +kernel
theorem dX6_layPen_87 : decode cX6_layPen 87 = .ok (.putfield 77, 3) := by decide +kernel
theorem dX6_layPen_90 : decode cX6_layPen 90 = .ok (.aload_n 3, 1) := by decide +kernel
theorem dX6_layPen_91 : decode cX6_layPen 91 = .ok (.iconst 1, 1) := by decide +kernel
theorem dX6_layPen_92 : decode cX6_layPen 92 = .ok (.putfield 80, 3) := by decide +kernel
theorem dX6_layPen_95 : decode cX6_layPen 95 = .ok (.return_, 1) := by decide +kernel
theorem dX7_init_0 : decode cX7_init 0 = .ok (.aload_n 0, 1) := by decide +kernel
theorem dX7_init_1 : decode cX7_init 1 = .ok (.invokespecial 3, 3) := by decide +kernel
theorem dX7_init_4 : decode cX7_init 4 = .ok (.aload_n 0, 1) := by decide +kernel
theorem dX7_init_5 : decode cX7_init 5 = .ok (.bipush 8, 2) := by decide +kernel
theorem dX7_init_7 : decode cX7_init 7 = .ok (.newarray .int, 2) := by decide +kernel
theorem dX7_init_9 : decode cX7_init 9 = .ok (.putfield 9, 3) := by decide +kernel
theorem dX7_init_12 : decode cX7_init 12 = .ok (.aload_n 0, 1) := by decide +kernel
theorem dX7_init_13 : decode cX7_init 13 = .ok (.bipush 25, 2) := by decide +kernel
theorem dX7_init_15 : decode cX7_init 15 = .ok (.newarray .int, 2) := by decide +kernel
theorem dX7_init_17 : decode cX7_init 17 = .ok (.putfield 15, 3) := by decide +kernel
theorem dX7_init_20 : decode cX7_init 20 = .ok (.aload_n 0, 1) := by decide +kernel
theorem dX7_init_21 : decode cX7_init 21 = .ok (.bipush 25, 2) := by decide +kernel
theorem dX7_init_23 : decode cX7_init 23 = .ok (.newarray .int, 2) := by decide +kernel
theorem dX7_init_25 : decode cX7_init 25 = .ok (.putfield 18, 3) := by decide +kernel
theorem dX7_init_28 : decode cX7_init 28 = .ok (.aload_n 0, 1) := by decide +kernel
theorem dX7_init_29 : decode cX7_init 29 = .ok (.bipush 25, 2) := by decide +kernel
theorem dX7_init_31 : decode cX7_init 31 = .ok (.newarray .int, 2) := by decide +kernel
theorem dX7_init_33 : decode cX7_init 33 = .ok (.putfield 21, 3) := by decide +kernel
theorem dX7_init_36 : decode cX7_init 36 = .ok (.aload_n 0, 1) := by decide +kernel
theorem dX7_init_37 : decode cX7_init 37 = .ok (.bipush 25, 2) := by decide +kernel
theorem dX7_init_39 : decode cX7_init 39 = .ok (.newarray .int, 2) := by decide +kernel
theorem dX7_init_41 : decode cX7_init 41 = .ok (.putfield 24, 3) := by decide +kernel
theorem dX7_init_44 : decode cX7_init 44 = .ok (.aload_n 0, 1) := by decide +kernel
theorem dX7_init_45 : decode cX7_init 45 = .ok (.bipush 25, 2) := by decide +kernel
theorem dX7_init_47 : decode cX7_init 47 = .ok (.newarray .int, 2) := by decide +kernel
theorem dX7_init_49 : decode cX7_init 49 = .ok (.putfield 27, 3) := by decide +kernel
theorem dX7_init_52 : decode cX7_init 52 = .ok (.return_, 1) := by decide +kernel
theorem dX7_reckonTo_0 : decode cX7_reckonTo 0 = .ok (.iconst 0, 1) := by decide +kernel
theorem dX7_reckonTo_1 : decode cX7_reckonTo 1 = .ok (.istore_n 3, 1) := by decide +kernel
theorem dX7_reckonTo_2 : decode cX7_reckonTo 2 = .ok (.iload_n 3, 1) := by decide +kernel
theorem dX7_reckonTo_3 : decode cX7_reckonTo 3 = .ok (.bipush 8, 2) := by decide +kernel
theorem dX7_reckonTo_5 : decode cX7_reckonTo 5 = .ok (.if_icmp .ge 25, 3) := by decide +kernel
theorem dX7_reckonTo_8 : decode cX7_reckonTo 8 = .ok (.aload_n 0, 1) := by decide +kernel
theorem dX7_reckonTo_9 : decode cX7_reckonTo 9 = .ok (.getfield 9, 3) := by decide +kernel
theorem dX7_reckonTo_12 : decode cX7_reckonTo 12 = .ok (.iload_n 3, 1) := by decide +kernel
theorem dX7_reckonTo_13 : decode cX7_reckonTo 13 = .ok (.bipush 100, 2) := by decide +kernel
theorem dX7_reckonTo_15 : decode cX7_reckonTo 15 = .ok (.aload_n 2, 1) := by decide +kernel
theorem dX7_reckonTo_16 : decode cX7_reckonTo 16 = .ok (.iload_n 3, 1) := by decide +kernel
theorem dX7_reckonTo_17 : decode cX7_reckonTo 17 = .ok (.invokevirtual 30, 3) := by decide +kernel
theorem dX7_reckonTo_20 : decode cX7_reckonTo 20 = .ok (.imul, 1) := by decide +kernel
theorem dX7_reckonTo_21 : decode cX7_reckonTo 21 = .ok (.iconst 1, 1) := by decide +kernel
theorem dX7_reckonTo_22 : decode cX7_reckonTo 22 = .ok (.iadd, 1) := by decide +kernel
theorem dX7_reckonTo_23 : decode cX7_reckonTo 23 = .ok (.iastore, 1) := by decide +kernel
theorem dX7_reckonTo_24 : decode cX7_reckonTo 24 = .ok (.iinc 3 1, 3) := by decide +kernel
theorem dX7_reckonTo_27 : decode cX7_reckonTo 27 = .ok (.goto (-25), 3) := by decide +kernel
theorem dX7_reckonTo_30 : decode cX7_reckonTo 30 = .ok (.iconst 0, 1) := by decide +kernel
theorem dX7_reckonTo_31 : decode cX7_reckonTo 31 = .ok (.istore_n 3, 1) := by decide +kernel
theorem dX7_reckonTo_32 : decode cX7_reckonTo 32 = .ok (.iload_n 3, 1) := by decide +kernel
theorem dX7_reckonTo_33 : decode cX7_reckonTo 33 = .ok (.bipush 25, 2) := by decide +kernel
theorem dX7_reckonTo_35 : decode cX7_reckonTo 35 = .ok (.if_icmp .ge 26, 3) := by decide +kernel
theorem dX7_reckonTo_38 : decode cX7_reckonTo 38 = .ok (.aload_n 0, 1) := by decide +kernel
theorem dX7_reckonTo_39 : decode cX7_reckonTo 39 = .ok (.getfield 15, 3) := by decide +kernel
theorem dX7_reckonTo_42 : decode cX7_reckonTo 42 = .ok (.iload_n 3, 1) := by decide +kernel
theorem dX7_reckonTo_43 : decode cX7_reckonTo 43 = .ok (.iload_n 3, 1) := by decide +kernel
theorem dX7_reckonTo_44 : decode cX7_reckonTo 44 = .ok (.iload_n 1, 1) := by decide +kernel
theorem dX7_reckonTo_45 : decode cX7_reckonTo 45 = .ok (.if_icmp .ne 7, 3) := by decide +kernel
theorem dX7_reckonTo_48 : decode cX7_reckonTo 48 = .ok (.iconst 0, 1) := by decide +kernel
theorem dX7_reckonTo_49 : decode cX7_reckonTo 49 = .ok (.goto 5, 3) := by decide +kernel
theorem dX7_reckonTo_52 : decode cX7_reckonTo 52 = .ok (.ldc 36, 2) := by decide +kernel
theorem dX7_reckonTo_54 : decode cX7_reckonTo 54 = .ok (.iastore, 1) := by decide +kernel
theorem dX7_reckonTo_55 : decode cX7_reckonTo 55 = .ok (.iinc 3 1, 3) := by decide +kernel
theorem dX7_reckonTo_58 : decode cX7_reckonTo 58 = .ok (.goto (-26), 3) := by decide +kernel
theorem dX7_reckonTo_61 : decode cX7_reckonTo 61 = .ok (.iconst 1, 1) := by decide +kernel
theorem dX7_reckonTo_62 : decode cX7_reckonTo 62 = .ok (.istore_n 3, 1) := by decide +kernel
theorem dX7_reckonTo_63 : decode cX7_reckonTo 63 = .ok (.iconst 0, 1) := by decide +kernel
theorem dX7_reckonTo_64 : decode cX7_reckonTo 64 = .ok (.istore 4, 2) := by decide +kernel
theorem dX7_reckonTo_66 : decode cX7_reckonTo 66 = .ok (.iload 4, 2) := by decide +kernel
theorem dX7_reckonTo_68 : decode cX7_reckonTo 68 = .ok (.bipush 25, 2) := by decide +kernel
theorem dX7_reckonTo_70 : decode cX7_reckonTo 70 = .ok (.if_icmp .ge 18, 3) := by decide +kernel
theorem dX7_reckonTo_73 : decode cX7_reckonTo 73 = .ok (.iload_n 3, 1) := by decide +kernel
theorem dX7_reckonTo_74 : decode cX7_reckonTo 74 = .ok (.ifCond .eq 14, 3) := by decide +kernel
theorem dX7_reckonTo_77 : decode cX7_reckonTo 77 = .ok (.aload_n 0, 1) := by decide +kernel
theorem dX7_reckonTo_78 : decode cX7_reckonTo 78 = .ok (.invokevirtual 37, 3) := by decide +kernel
theorem dX7_reckonTo_81 : decode cX7_reckonTo 81 = .ok (.istore_n 3, 1) := by decide +kernel
theorem dX7_reckonTo_82 : decode cX7_reckonTo 82 = .ok (.iinc 4 1, 3) := by decide +kernel
theorem dX7_reckonTo_85 : decode cX7_reckonTo 85 = .ok (.goto (-19), 3) := by decide +kernel
theorem dX7_reckonTo_88 : decode cX7_reckonTo 88 = .ok (.return_, 1) := by decide +kernel
theorem dX7_isLowered_0 : decode cX7_isLowered 0 = .ok (.iconst 0, 1) := by decide +kernel
theorem dX7_isLowered_1 : decode cX7_isLowered 1 = .ok (.istore_n 1, 1) := by decide +kernel
theorem dX7_isLowered_2 : decode cX7_isLowered 2 = .ok (.iconst 0, 1) := by decide +kernel
theorem dX7_isLowered_3 : decode cX7_isLowered 3 = .ok (.istore_n 2, 1) := by decide +kernel
theorem dX7_isLowered_4 : decode cX7_isLowered 4 = .ok (.iload_n 2, 1) := by decide +kernel
theorem dX7_isLowered_5 : decode cX7_isLowered 5 = .ok (.bipush 25, 2) := by decide +kernel
theorem dX7_isLowered_7 : decode cX7_isLowered 7 = .ok (.if_icmp .ge 52, 3) := by decide +kernel
theorem dX7_isLowered_10 : decode cX7_isLowered 10 = .ok (.iconst 0, 1) := by decide +kernel
theorem dX7_isLowered_11 : decode cX7_isLowered 11 = .ok (.istore_n 3, 1) := by decide +kernel
theorem dX7_isLowered_12 : decode cX7_isLowered 12 = .ok (.iload_n 3, 1) := by decide +kernel
theorem dX7_isLowered_13 : decode cX7_isLowered 13 = .ok (.bipush 8, 2) := by decide +kernel
theorem dX7_isLowered_15 : decode cX7_isLowered 15 = .ok (.if_icmp .ge 38, 3) := by decide +kernel
theorem dX7_isLowered_18 : decode cX7_isLowered 18 = .ok (.aload_n 0, 1) := by decide +kernel
theorem dX7_isLowered_19 : decode cX7_isLowered 19 = .ok (.iload_n 2, 1) := by decide +kernel
theorem dX7_isLowered_20 : decode cX7_isLowered 20 = .ok (.iload_n 3, 1) := by decide +kernel
theorem dX7_isLowered_21 : decode cX7_isLowered 21 = .ok (.invokevirtual 41, 3) := by decide +kernel
theorem dX7_isLowered_24 : decode cX7_isLowered 24 = .ok (.istore 4, 2) := by decide +kernel
theorem dX7_isLowered_26 : decode cX7_isLowered 26 = .ok (.iload 4, 2) := by decide +kernel
theorem dX7_isLowered_28 : decode cX7_isLowered 28 = .ok (.aload_n 0, 1) := by decide +kernel
theorem dX7_isLowered_29 : decode cX7_isLowered 29 = .ok (.getfield 15, 3) := by decide +kernel
theorem dX7_isLowered_32 : decode cX7_isLowered 32 = .ok (.iload_n 2, 1) := by decide +kernel
theorem dX7_isLowered_33 : decode cX7_isLowered 33 = .ok (.iaload, 1) := by decide +kernel
theorem dX7_isLowered_34 : decode cX7_isLowered 34 = .ok (.if_icmp .ge 13, 3) := by decide +kernel
theorem dX7_isLowered_37 : decode cX7_isLowered 37 = .ok (.aload_n 0, 1) := by decide +kernel
theorem dX7_isLowered_38 : decode cX7_isLowered 38 = .ok (.getfield 15, 3) := by decide +kernel
theorem dX7_isLowered_41 : decode cX7_isLowered 41 = .ok (.iload_n 2, 1) := by decide +kernel
theorem dX7_isLowered_42 : decode cX7_isLowered 42 = .ok (.iload 4, 2) := by decide +kernel
theorem dX7_isLowered_44 : decode cX7_isLowered 44 = .ok (.iastore, 1) := by decide +kernel
theorem dX7_isLowered_45 : decode cX7_isLowered 45 = .ok (.iconst 1, 1) := by decide +kernel
theorem dX7_isLowered_46 : decode cX7_isLowered 46 = .ok (.istore_n 1, 1) := by decide +kernel
theorem dX7_isLowered_47 : decode cX7_isLowered 47 = .ok (.iinc 3 1, 3) := by decide +kernel
theorem dX7_isLowered_50 : decode cX7_isLowered 50 = .ok (.goto (-38), 3) := by decide +kernel
theorem dX7_isLowered_53 : decode cX7_isLowered 53 = .ok (.iinc 2 1, 3) := by decide +kernel
theorem dX7_isLowered_56 : decode cX7_isLowered 56 = .ok (.goto (-52), 3) := by decide +kernel
theorem dX7_isLowered_59 : decode cX7_isLowered 59 = .ok (.iload_n 1, 1) := by decide +kernel
theorem dX7_isLowered_60 : decode cX7_isLowered 60 = .ok (.ireturn, 1) := by decide +kernel
theorem dX7_costBy_0 : decode cX7_costBy 0 = .ok (.iload_n 1, 1) := by decide +kernel
theorem dX7_costBy_1 : decode cX7_costBy 1 = .ok (.iload_n 2, 1) := by decide +kernel
theorem dX7_costBy_2 : decode cX7_costBy 2 = .ok (.invokestatic 45, 3) := by decide +kernel
theorem dX7_costBy_5 : decode cX7_costBy 5 = .ok (.istore_n 3, 1) := by decide +kernel
theorem dX7_costBy_6 : decode cX7_costBy 6 = .ok (.iload_n 3, 1) := by decide +kernel
theorem dX7_costBy_7 : decode cX7_costBy 7 = .ok (.invokestatic 48, 3) := by decide +kernel
theorem dX7_costBy_10 : decode cX7_costBy 10 = .ok (.ifCond .eq 26, 3) := by decide +kernel
theorem dX7_costBy_13 : decode cX7_costBy 13 = .ok (.iload_n 2, 1) := by decide +kernel
theorem dX7_costBy_14 : decode cX7_costBy 14 = .ok (.invokestatic 52, 3) := by decide +kernel
theorem dX7_costBy_17 : decode cX7_costBy 17 = .ok (.ifCond .eq 19, 3) := by decide +kernel
theorem dX7_costBy_20 : decode cX7_costBy 20 = .ok (.aload_n 0, 1) := by decide +kernel
theorem dX7_costBy_21 : decode cX7_costBy 21 = .ok (.getfield 9, 3) := by decide +kernel
theorem dX7_costBy_24 : decode cX7_costBy 24 = .ok (.iload_n 2, 1) := by decide +kernel
theorem dX7_costBy_25 : decode cX7_costBy 25 = .ok (.iaload, 1) := by decide +kernel
theorem dX7_costBy_26 : decode cX7_costBy 26 = .ok (.aload_n 0, 1) := by decide +kernel
theorem dX7_costBy_27 : decode cX7_costBy 27 = .ok (.getfield 15, 3) := by decide +kernel
theorem dX7_costBy_30 : decode cX7_costBy 30 = .ok (.iload_n 3, 1) := by decide +kernel
theorem dX7_costBy_31 : decode cX7_costBy 31 = .ok (.iaload, 1) := by decide +kernel
theorem dX7_costBy_32 : decode cX7_costBy 32 = .ok (.iadd, 1) := by decide +kernel
theorem dX7_costBy_33 : decode cX7_costBy 33 = .ok (.goto 5, 3) := by decide +kernel
theorem dX7_costBy_36 : decode cX7_costBy 36 = .ok (.ldc 36, 2) := by decide +kernel
theorem dX7_costBy_38 : decode cX7_costBy 38 = .ok (.ireturn, 1) := by decide +kernel
theorem dX7_costFrom_0 : decode cX7_costFrom 0 = .ok (.iload_n 1, 1) := by decide +kernel
theorem dX7_costFrom_1 : decode cX7_costFrom 1 = .ok (.invokestatic 48, 3) := by decide +kernel
theorem dX7_costFrom_4 : decode cX7_costFrom 4 = .ok (.ifCond .eq 12, 3) := by decide +kernel
theorem dX7_costFrom_7 : decode cX7_costFrom 7 = .ok (.aload_n 0, 1) := by decide +kernel
theorem dX7_costFrom_8 : decode cX7_costFrom 8 = .ok (.getfield 15, 3) := by decide +kernel
theorem dX7_costFrom_11 : decode cX7_costFrom 11 = .ok (.iload_n 1, 1) := by decide +kernel
theorem dX7_costFrom_12 : decode cX7_costFrom 12 = .ok (.iaload, 1) := by decide +kernel
theorem dX7_costFrom_13 : decode cX7_costFrom 13 = .ok (.goto 4, 3) := by decide +kernel
theorem dX7_costFrom_16 : decode cX7_costFrom 16 = .ok (.iconst 0, 1) := by decide +kernel
theorem dX7_costFrom_17 : decode cX7_costFrom 17 = .ok (.ireturn, 1) := by decide +kernel
theorem dX7_inkFrom_0 : decode cX7_inkFrom 0 = .ok (.aload_n 0, 1) := by decide +kernel
theorem dX7_inkFrom_1 : decode cX7_inkFrom 1 = .ok (.iload_n 1, 1) := by decide +kernel
theorem dX7_inkFrom_2 : decode cX7_inkFrom 2 = .ok (.invokevirtual 55, 3) := by decide +kernel
theorem dX7_inkFrom_5 : decode cX7_inkFrom 5 = .ok (.bipush 100, 2) := by decide +kernel
theorem dX7_inkFrom_7 : decode cX7_inkFrom 7 = .ok (.idiv, 1) := by decide +kernel
theorem dX7_inkFrom_8 : decode cX7_inkFrom 8 = .ok (.ireturn, 1) := by decide +kernel
theorem dX7_stepsFrom_0 : decode cX7_stepsFrom 0 = .ok (.aload_n 0, 1) := by decide +kernel
theorem dX7_stepsFrom_1 : decode cX7_stepsFrom 1 = .ok (.iload_n 1, 1) := by decide +kernel
theorem dX7_stepsFrom_2 : decode cX7_stepsFrom 2 = .ok (.invokevirtual 55, 3) := by decide +kernel
theorem dX7_stepsFrom_5 : decode cX7_stepsFrom 5 = .ok (.bipush 100, 2) := by decide +kernel
theorem dX7_stepsFrom_7 : decode cX7_stepsFrom 7 = .ok (.irem, 1) := by decide +kernel
theorem dX7_stepsFrom_8 : decode cX7_stepsFrom 8 = .ok (.ireturn, 1) := by decide +kernel
theorem dX7_directionFrom_0 : decode cX7_directionFrom 0 = .ok (.aload_n 0, 1) := by decide +kernel
theorem dX7_directionFrom_1 : decode cX7_directionFrom 1 = .ok (.iload_n 1, 1) := by decide +kernel
theorem dX7_directionFrom_2 : decode cX7_directionFrom 2 = .ok (.invokevirtual 55, 3) := by decide +kernel
theorem dX7_directionFrom_5 : decode cX7_directionFrom 5 = .ok (.istore_n 2, 1) := by decide +kernel
theorem dX7_directionFrom_6 : decode cX7_directionFrom 6 = .ok (.iconst 0, 1) := by decide +kernel
theorem dX7_directionFrom_7 : decode cX7_directionFrom 7 = .ok (.istore_n 3, 1) := by decide +kernel
theorem dX7_directionFrom_8 : decode cX7_directionFrom 8 = .ok (.iload_n 3, 1) := by decide +kernel
theorem dX7_directionFrom_9 : decode cX7_directionFrom 9 = .ok (.bipush 8, 2) := by decide +kernel
theorem dX7_directionFrom_11 : decode cX7_directionFrom 11 = .ok (.if_icmp .ge 25, 3) := by decide +kernel
theorem dX7_directionFrom_14 : decode cX7_directionFrom 14 = .ok (.iload_n 2, 1) := by decide +kernel
theorem dX7_directionFrom_15 : decode cX7_directionFrom 15 = .ok (.ifCond .le 15, 3) := by decide +kernel
theorem dX7_directionFrom_18 : decode cX7_directionFrom 18 = .ok (.aload_n 0, 1) := by decide +kernel
theorem dX7_directionFrom_19 : decode cX7_directionFrom 19 = .ok (.iload_n 1, 1) := by decide +kernel
theorem dX7_directionFrom_20 : decode cX7_directionFrom 20 = .ok (.iload_n 3, 1) := by decide +kernel
theorem dX7_directionFrom_21 : decode cX7_directionFrom 21 = .ok (.invokevirtual 41, 3) := by decide +kernel
theorem dX7_directionFrom_24 : decode cX7_directionFrom 24 = .ok (.iload_n 2, 1) := by decide +kernel
theorem dX7_directionFrom_25 : decode cX7_directionFrom 25 = .ok (.if_icmp .ne 5, 3) := by decide +kernel
theorem dX7_directionFrom_28 : decode cX7_directionFrom 28 = .ok (.iload_n 3, 1) := by decide +kernel
theorem dX7_directionFrom_29 : decode cX7_directionFrom 29 = .ok (.ireturn, 1) := by decide +kernel
theorem dX7_directionFrom_30 : decode cX7_directionFrom 30 = .ok (.iinc 3 1, 3) := by decide +kernel
theorem dX7_directionFrom_33 : decode cX7_directionFrom 33 = .ok (.goto (-25), 3) := by decide +kernel
theorem dX7_directionFrom_36 : decode cX7_directionFrom 36 = .ok (.bipush (-9), 2) := by decide +kernel
theorem dX7_directionFrom_38 : decode cX7_directionFrom 38 = .ok (.ireturn, 1) := by decide +kernel
theorem dX7_walk_0 : decode cX7_walk 0 = .ok (.iconst 0, 1) := by decide +kernel
theorem dX7_walk_1 : decode cX7_walk 1 = .ok (.istore_n 3, 1) := by decide +kernel
theorem dX7_walk_2 : decode cX7_walk 2 = .ok (.iload_n 3, 1) := by decide +kernel
theorem dX7_walk_3 : decode cX7_walk 3 = .ok (.bipush 25, 2) := by decide +kernel
theorem dX7_walk_5 : decode cX7_walk 5 = .ok (.if_icmp .ge 48, 3) := by decide +kernel
theorem dX7_walk_8 : decode cX7_walk 8 = .ok (.aload_n 0, 1) := by decide +kernel
theorem dX7_walk_9 : decode cX7_walk 9 = .ok (.getfield 18, 3) := by decide +kernel
theorem dX7_walk_12 : decode cX7_walk 12 = .ok (.iload_n 3, 1) := by decide +kernel
theorem dX7_walk_13 : decode cX7_walk 13 = .ok (.iload_n 3, 1) := by decide +kernel
theorem dX7_walk_14 : decode cX7_walk 14 = .ok (.aload_n 1, 1) := by decide +kernel
theorem dX7_walk_15 : decode cX7_walk 15 = .ok (.getfield 58, 3) := by decide +kernel
theorem dX7_walk_18 : decode cX7_walk 18 = .ok (.if_icmp .ne 7, 3) := by decide +kernel
theorem dX7_walk_21 : decode cX7_walk 21 = .ok (.iconst 1, 1) := by decide +kernel
theorem dX7_walk_22 : decode cX7_walk 22 = .ok (.goto 4, 3) := by decide +kernel
theorem dX7_walk_25 : decode cX7_walk 25 = .ok (.iconst 0, 1) := by decide +kernel
theorem dX7_walk_26 : decode cX7_walk 26 = .ok (.iastore, 1) := by decide +kernel
theorem dX7_walk_27 : decode cX7_walk 27 = .ok (.aload_n 0, 1) := by decide +kernel
theorem dX7_walk_28 : decode cX7_walk 28 = .ok (.getfield 24, 3) := by decide +kernel
theorem dX7_walk_31 : decode cX7_walk 31 = .ok (.iload_n 3, 1) := by decide +kernel
theorem dX7_walk_32 : decode cX7_walk 32 = .ok (.iload_n 3, 1) := by decide +kernel
theorem dX7_walk_33 : decode cX7_walk 33 = .ok (.aload_n 1, 1) := by decide +kernel
theorem dX7_walk_34 : decode cX7_walk 34 = .ok (.getfield 58, 3) := by decide +kernel
theorem dX7_walk_37 : decode cX7_walk 37 = .ok (.if_icmp .ne 7, 3) := by decide +kernel
theorem dX7_walk_40 : decode cX7_walk 40 = .ok (.iconst 0, 1) := by decide +kernel
theorem dX7_walk_41 : decode cX7_walk 41 = .ok (.goto 5, 3) := by decide +kernel
theorem dX7_walk_44 : decode cX7_walk 44 = .ok (.ldc 36, 2) := by decide +kernel
theorem dX7_walk_46 : decode cX7_walk 46 = .ok (.iastore, 1) := by decide +kernel
theorem dX7_walk_47 : decode cX7_walk 47 = .ok (.iinc 3 1, 3) := by decide +kernel
theorem dX7_walk_50 : decode cX7_walk 50 = .ok (.goto (-48), 3) := by decide +kernel
theorem dX7_walk_53 : decode cX7_walk 53 = .ok (.iconst 0, 1) := by decide +kernel
theorem dX7_walk_54 : decode cX7_walk 54 = .ok (.istore_n 3, 1) := by decide +kernel
theorem dX7_walk_55 : decode cX7_walk 55 = .ok (.iload_n 3, 1) := by decide +kernel
theorem dX7_walk_56 : decode cX7_walk 56 = .ok (.iload_n 2, 1) := by decide +kernel
theorem dX7_walk_57 : decode cX7_walk 57 = .ok (.if_icmp .ge 14, 3) := by decide +kernel
theorem dX7_walk_60 : decode cX7_walk 60 = .ok (.aload_n 0, 1) := by decide +kernel
theorem dX7_walk_61 : decode cX7_walk 61 = .ok (.aload_n 1, 1) := by decide +kernel
theorem dX7_walk_62 : decode cX7_walk 62 = .ok (.invokevirtual 62, 3) := by decide +kernel
theorem dX7_walk_65 : decode cX7_walk 65 = .ok (.iinc 3 1, 3) := by decide +kernel
theorem dX7_walk_68 : decode cX7_walk 68 = .ok (.goto (-13), 3) := by decide +kernel
theorem dX7_walk_71 : decode cX7_walk 71 = .ok (.return_, 1) := by decide +kernel
theorem dX7_walkOne_0 : decode cX7_walkOne 0 = .ok (.aload_n 0, 1) := by decide +kernel
theorem dX7_walkOne_1 : decode cX7_walkOne 1 = .ok (.getfield 21, 3) := by decide +kernel
theorem dX7_walkOne_4 : decode cX7_walkOne 4 = .ok (.iconst 0, 1) := by decide +kernel
theorem dX7_walkOne_5 : decode cX7_walkOne 5 = .ok (.invokestatic 66, 3) := by decide +kernel
theorem dX7_walkOne_8 : decode cX7_walkOne 8 = .ok (.aload_n 0, 1) := by decide +kernel
theorem dX7_walkOne_9 : decode cX7_walkOne 9 = .ok (.getfield 27, 3) := by decide +kernel
theorem dX7_walkOne_12 : decode cX7_walkOne 12 = .ok (.ldc 36, 2) := by decide +kernel
theorem dX7_walkOne_14 : decode cX7_walkOne 14 = .ok (.invokestatic 66, 3) := by decide +kernel
theorem dX7_walkOne_17 : decode cX7_walkOne 17 = .ok (.iconst 0, 1) := by decide +kernel
theorem dX7_walkOne_18 : decode cX7_walkOne 18 = .ok (.istore_n 2, 1) := by decide +kernel
theorem dX7_walkOne_19 : decode cX7_walkOne 19 = .ok (.iload_n 2, 1) := by decide +kernel
theorem dX7_walkOne_20 : decode cX7_walkOne 20 = .ok (.bipush 8, 2) := by decide +kernel
theorem dX7_walkOne_22 : decode cX7_walkOne 22 = .ok (.if_icmp .ge 100, 3) := by decide +kernel
theorem dX7_walkOne_25 : decode cX7_walkOne 25 = .ok (.aload_n 1, 1) := by decide +kernel
theorem dX7_walkOne_26 : decode cX7_walkOne 26 = .ok (.iload_n 2, 1) := by decide +kernel
theorem dX7_walkOne_27 : decode cX7_walkOne 27 = .ok (.invokevirtual 30, 3) := by decide +kernel
theorem dX7_walkOne_30 : decode cX7_walkOne 30 = .ok (.istore_n 3, 1) := by decide +kernel
theorem dX7_walkOne_31 : decode cX7_walkOne 31 = .ok (.iconst 0, 1) := by decide +kernel
theorem dX7_walkOne_32 : decode cX7_walkOne 32 = .ok (.istore 4, 2) := by decide +kernel
theorem dX7_walkOne_34 : decode cX7_walkOne 34 = .ok (.iload 4, 2) := by decide +kernel
theorem dX7_walkOne_36 : decode cX7_walkOne 36 = .ok (.bipush 25, 2) := by decide +kernel
theorem dX7_walkOne_38 : decode cX7_walkOne 38 = .ok (.if_icmp .ge 78, 3) := by decide +kernel
theorem dX7_walkOne_41 : decode cX7_walkOne 41 = .ok (.iload 4, 2) := by decide +kernel
theorem dX7_walkOne_43 : decode cX7_walkOne 43 = .ok (.iload_n 2, 1) := by decide +kernel
theorem dX7_walkOne_44 : decode cX7_walkOne 44 = .ok (.invokestatic 45, 3) := by decide +kernel
theorem dX7_walkOne_47 : decode cX7_walkOne 47 = .ok (.istore 5, 2) := by decide +kernel
theorem dX7_walkOne_49 : decode cX7_walkOne 49 = .ok (.iload 5, 2) := by decide +kernel
theorem dX7_walkOne_51 : decode cX7_walkOne 51 = .ok (.invokestatic 48, 3) := by decide +kernel
theorem dX7_walkOne_54 : decode cX7_walkOne 54 = .ok (.ifCond .eq 56, 3) := by decide +kernel
theorem dX7_walkOne_57 : decode cX7_walkOne 57 = .ok (.aload_n 0, 1) := by decide +kernel
theorem dX7_walkOne_58 : decode cX7_walkOne 58 = .ok (.getfield 18, 3) := by decide +kernel
theorem dX7_walkOne_61 : decode cX7_walkOne 61 = .ok (.iload 4, 2) := by decide +kernel
theorem dX7_walkOne_63 : decode cX7_walkOne 63 = .ok (.iaload, 1) := by decide +kernel
theorem dX7_walkOne_64 : decode cX7_walkOne 64 = .ok (.ifCond .le 46, 3) := by decide +kernel
theorem dX7_walkOne_67 : decode cX7_walkOne 67 = .ok (.aload_n 0, 1) := by decide +kernel
theorem dX7_walkOne_68 : decode cX7_walkOne 68 = .ok (.getfield 21, 3) := by decide +kernel
theorem dX7_walkOne_71 : decode cX7_walkOne 71 = .ok (.iload 5, 2) := by decide +kernel
theorem dX7_walkOne_73 : decode cX7_walkOne 73 = .ok (.dup2, 1) := by decide +kernel
theorem dX7_walkOne_74 : decode cX7_walkOne 74 = .ok (.iaload, 1) := by decide +kernel
theorem dX7_walkOne_75 : decode cX7_walkOne 75 = .ok (.aload_n 0, 1) := by decide +kernel
theorem dX7_walkOne_76 : decode cX7_walkOne 76 = .ok (.getfield 18, 3) := by decide +kernel
theorem dX7_walkOne_79 : decode cX7_walkOne 79 = .ok (.iload 4, 2) := by decide +kernel
theorem dX7_walkOne_81 : decode cX7_walkOne 81 = .ok (.iaload, 1) := by decide +kernel
theorem dX7_walkOne_82 : decode cX7_walkOne 82 = .ok (.iadd, 1) := by decide +kernel
theorem dX7_walkOne_83 : decode cX7_walkOne 83 = .ok (.iastore, 1) := by decide +kernel
theorem dX7_walkOne_84 : decode cX7_walkOne 84 = .ok (.aload_n 0, 1) := by decide +kernel
theorem dX7_walkOne_85 : decode cX7_walkOne 85 = .ok (.getfield 27, 3) := by decide +kernel
theorem dX7_walkOne_88 : decode cX7_walkOne 88 = .ok (.iload 5, 2) := by decide +kernel
theorem dX7_walkOne_90 : decode cX7_walkOne 90 = .ok (.aload_n 0, 1) := by decide +kernel
theorem dX7_walkOne_91 : decode cX7_walkOne 91 = .ok (.getfield 27, 3) := by decide +kernel
theorem dX7_walkOne_94 : decode cX7_walkOne 94 = .ok (.iload 5, 2) := by decide +kernel
theorem dX7_walkOne_96 : decode cX7_walkOne 96 = .ok (.iaload, 1) := by decide +kernel
theorem dX7_walkOne_97 : decode cX7_walkOne 97 = .ok (.aload_n 0, 1) := by decide +kernel
theorem dX7_walkOne_98 : decode cX7_walkOne 98 = .ok (.getfield 24, 3) := by decide +kernel
theorem dX7_walkOne_101 : decode cX7_walkOne 101 = .ok (.iload 4, 2) := by decide +kernel
theorem dX7_walkOne_103 : decode cX7_walkOne 103 = .ok (.iaload, 1) := by decide +kernel
theorem dX7_walkOne_104 : decode cX7_walkOne 104 = .ok (.iload_n 3, 1) := by decide +kernel
theorem dX7_walkOne_105 : decode cX7_walkOne 105 = .ok (.iadd, 1) := by decide +kernel
theorem dX7_walkOne_106 : decode cX7_walkOne 106 = .ok (.invokestatic 72, 3) := by decide +kernel
theorem dX7_walkOne_109 : decode cX7_walkOne 109 = .ok (.iastore, 1) := by decide +kernel
theorem dX7_walkOne_110 : decode cX7_walkOne 110 = .ok (.iinc 4 1, 3) := by decide +kernel
theorem dX7_walkOne_113 : decode cX7_walkOne 113 = .ok (.goto (-79), 3) := by decide +kernel
theorem dX7_walkOne_116 : decode cX7_walkOne 116 = .ok (.iinc 2 1, 3) := by decide +kernel
theorem dX7_walkOne_119 : decode cX7_walkOne 119 = .ok (.goto (-100), 3) := by decide +kernel
theorem dX7_walkOne_122 : decode cX7_walkOne 122 = .ok (.aload_n 0, 1) := by decide +kernel
theorem dX7_walkOne_123 : decode cX7_walkOne 123 = .ok (.getfield 21, 3) := by decide +kernel
theorem dX7_walkOne_126 : decode cX7_walkOne 126 = .ok (.iconst 0, 1) := by decide +kernel
theorem dX7_walkOne_127 : decode cX7_walkOne 127 = .ok (.aload_n 0, 1) := by decide +kernel
theorem dX7_walkOne_128 : decode cX7_walkOne 128 = .ok (.getfield 18, 3) := by decide +kernel
theorem dX7_walkOne_131 : decode cX7_walkOne 131 = .ok (.iconst 0, 1) := by decide +kernel
theorem dX7_walkOne_132 : decode cX7_walkOne 132 = .ok (.bipush 25, 2) := by decide +kernel
theorem dX7_walkOne_134 : decode cX7_walkOne 134 = .ok (.invokestatic 77, 3) := by decide +kernel
theorem dX7_walkOne_137 : decode cX7_walkOne 137 = .ok (.aload_n 0, 1) := by decide +kernel
theorem dX7_walkOne_138 : decode cX7_walkOne 138 = .ok (.getfield 27, 3) := by decide +kernel
theorem dX7_walkOne_141 : decode cX7_walkOne 141 = .ok (.iconst 0, 1) := by decide +kernel
theorem dX7_walkOne_142 : decode cX7_walkOne 142 = .ok (.aload_n 0, 1) := by decide +kernel
theorem dX7_walkOne_143 : decode cX7_walkOne 143 = .ok (.getfield 24, 3) := by decide +kernel
theorem dX7_walkOne_146 : decode cX7_walkOne 146 = .ok (.iconst 0, 1) := by decide +kernel
theorem dX7_walkOne_147 : decode cX7_walkOne 147 = .ok (.bipush 25, 2) := by decide +kernel
theorem dX7_walkOne_149 : decode cX7_walkOne 149 = .ok (.invokestatic 77, 3) := by decide +kernel
theorem dX7_walkOne_152 : decode cX7_walkOne 152 = .ok (.return_, 1) := by decide +kernel
theorem dX7_rowsTo_0 : decode cX7_rowsTo 0 = .ok (.iload_n 1, 1) := by decide +kernel
theorem dX7_rowsTo_1 : decode cX7_rowsTo 1 = .ok (.invokestatic 48, 3) := by decide +kernel
theorem dX7_rowsTo_4 : decode cX7_rowsTo 4 = .ok (.ifCond .eq 12, 3) := by decide +kernel
theorem dX7_rowsTo_7 : decode cX7_rowsTo 7 = .ok (.aload_n 0, 1) := by decide +kernel
theorem dX7_rowsTo_8 : decode cX7_rowsTo 8 = .ok (.getfield 18, 3) := by decide +kernel
theorem dX7_rowsTo_11 : decode cX7_rowsTo 11 = .ok (.iload_n 1, 1) := by decide +kernel
theorem dX7_rowsTo_12 : decode cX7_rowsTo 12 = .ok (.iaload, 1) := by decide +kernel
theorem dX7_rowsTo_13 : decode cX7_rowsTo 13 = .ok (.goto 4, 3) := by decide +kernel
theorem dX7_rowsTo_16 : decode cX7_rowsTo 16 = .ok (.iconst 0, 1) := by decide +kernel
theorem dX7_rowsTo_17 : decode cX7_rowsTo 17 = .ok (.ireturn, 1) := by decide +kernel
theorem dX7_lowestTo_0 : decode cX7_lowestTo 0 = .ok (.iload_n 1, 1) := by decide +kernel
theorem dX7_lowestTo_1 : decode cX7_lowestTo 1 = .ok (.invokestatic 48, 3) := by decide +kernel
theorem dX7_lowestTo_4 : decode cX7_lowestTo 4 = .ok (.ifCond .eq 21, 3) := by decide +kernel
theorem dX7_lowestTo_7 : decode cX7_lowestTo 7 = .ok (.aload_n 0, 1) := by decide +kernel
theorem dX7_lowestTo_8 : decode cX7_lowestTo 8 = .ok (.getfield 18, 3) := by decide +kernel
theorem dX7_lowestTo_11 : decode cX7_lowestTo 11 = .ok (.iload_n 1, 1) := by decide +kernel
theorem dX7_lowestTo_12 : decode cX7_lowestTo 12 = .ok (.iaload, 1) := by decide +kernel
theorem dX7_lowestTo_13 : decode cX7_lowestTo 13 = .ok (.ifCond .le 12, 3) := by decide +kernel
theorem dX7_lowestTo_16 : decode cX7_lowestTo 16 = .ok (.aload_n 0, 1) := by decide +kernel
theorem dX7_lowestTo_17 : decode cX7_lowestTo 17 = .ok (.getfield 24, 3) := by decide +kernel
theorem dX7_lowestTo_20 : decode cX7_lowestTo 20 = .ok (.iload_n 1, 1) := by decide +kernel
theorem dX7_lowestTo_21 : decode cX7_lowestTo 21 = .ok (.iaload, 1) := by decide +kernel
theorem dX7_lowestTo_22 : decode cX7_lowestTo 22 = .ok (.goto 5, 3) := by decide +kernel
theorem dX7_lowestTo_25 : decode cX7_lowestTo 25 = .ok (.bipush (-9), 2) := by decide +kernel
theorem dX7_lowestTo_27 : decode cX7_lowestTo 27 = .ok (.ireturn, 1) := by decide +kernel
theorem dX8_init_0 : decode cX8_init 0 = .ok (.aload_n 0, 1) := by decide +kernel
theorem dX8_init_1 : decode cX8_init 1 = .ok (.invokespecial 3, 3) := by decide +kernel
theorem dX8_init_4 : decode cX8_init 4 = .ok (.aload_n 0, 1) := by decide +kernel
theorem dX8_init_5 : decode cX8_init 5 = .ok (.bipush 8, 2) := by decide +kernel
theorem dX8_init_7 : decode cX8_init 7 = .ok (.newarray .int, 2) := by decide +kernel
theorem dX8_init_9 : decode cX8_init 9 = .ok (.putfield 9, 3) := by decide +kernel
theorem dX8_init_12 : decode cX8_init 12 = .ok (.return_, 1) := by decide +kernel
theorem dX8_isOfDirections_0 : decode cX8_isOfDirections 0 = .ok (.iconst 0, 1) := by decide +kernel
theorem dX8_isOfDirections_1 : decode cX8_isOfDirections 1 = .ok (.istore_n 3, 1) := by decide +kernel
theorem dX8_isOfDirections_2 : decode cX8_isOfDirections 2 = .ok (.iload_n 3, 1) := by decide +kernel
theorem dX8_isOfDirections_3 : decode cX8_isOfDirections 3 = .ok (.iload_n 0, 1) := by decide +kernel
theorem dX8_isOfDirections_4 : decode cX8_isOfDirections 4 = .ok (.if_icmp .ge 22, 3) := by decide +kernel
theorem dX8_isOfDirections_7 : decode cX8_isOfDirections 7 = .ok (.lload_n 1, 1) := by decide +kernel
theorem dX8_isOfDirections_8 : decode cX8_isOfDirections 8 = .ok (.iload_n 3, 1) := by decide +kernel
theorem dX8_isOfDirections_9 : decode cX8_isOfDirections 9 = .ok (.invokestatic 15, 3) := by decide +kernel
theorem dX8_isOfDirections_12 : decode cX8_isOfDirections 12 = .ok (.invokestatic 19, 3) := by decide +kernel
theorem dX8_isOfDirections_15 : decode cX8_isOfDirections 15 = .ok (.ifCond .ne 5, 3) := by decide +kernel
theorem dX8_isOfDirections_18 : decode cX8_isOfDirections 18 = .ok (.iconst 0, 1) := by decide +kernel
theorem dX8_isOfDirections_19 : decode cX8_isOfDirections 19 = .ok (.ireturn, 1) := by decide +kernel
theorem dX8_isOfDirections_20 : decode cX8_isOfDirections 20 = .ok (.iinc 3 1, 3) := by decide +kernel
theorem dX8_isOfDirections_23 : decode cX8_isOfDirections 23 = .ok (.goto (-21), 3) := by decide +kernel
theorem dX8_isOfDirections_26 : decode cX8_isOfDirections 26 = .ok (.iconst 1, 1) := by decide +kernel
theorem dX8_isOfDirections_27 : decode cX8_isOfDirections 27 = .ok (.ireturn, 1) := by decide +kernel
theorem dX8_tell_0 : decode cX8_tell 0 = .ok (.aload_n 0, 1) := by decide +kernel
theorem dX8_tell_1 : decode cX8_tell 1 = .ok (.iload_n 1, 1) := by decide +kernel
theorem dX8_tell_2 : decode cX8_tell 2 = .ok (.bipush 8, 2) := by decide +kernel
theorem dX8_tell_4 : decode cX8_tell 4 = .ok (.invokestatic 23, 3) := by decide +kernel
theorem dX8_tell_7 : decode cX8_tell 7 = .ok (.putfield 29, 3) := by decide +kernel
theorem dX8_tell_10 : decode cX8_tell 10 = .ok (.iconst 0, 1) := by decide +kernel
theorem dX8_tell_11 : decode cX8_tell 11 = .ok (.istore 4, 2) := by decide +kernel
theorem dX8_tell_13 : decode cX8_tell 13 = .ok (.iload 4, 2) := by decide +kernel
theorem dX8_tell_15 : decode cX8_tell 15 = .ok (.aload_n 0, 1) := by decide +kernel
theorem dX8_tell_16 : decode cX8_tell 16 = .ok (.getfield 29, 3) := by decide +kernel
theorem dX8_tell_19 : decode cX8_tell 19 = .ok (.if_icmp .ge 29, 3) := by decide +kernel
theorem dX8_tell_22 : decode cX8_tell 22 = .ok (.aload_n 0, 1) := by decide +kernel
theorem dX8_tell_23 : decode cX8_tell 23 = .ok (.getfield 9, 3) := by decide +kernel
theorem dX8_tell_26 : decode cX8_tell 26 = .ok (.iload 4, 2) := by decide +kernel
theorem dX8_tell_28 : decode cX8_tell 28 = .ok (.lload_n 2, 1) := by decide +kernel
theorem dX8_tell_29 : decode cX8_tell 29 = .ok (.aload_n 0, 1) := by decide +kernel
theorem dX8_tell_30 : decode cX8_tell 30 = .ok (.getfield 29, 3) := by decide +kernel
theorem dX8_tell_33 : decode cX8_tell 33 = .ok (.iconst 1, 1) := by decide +kernel
theorem dX8_tell_34 : decode cX8_tell 34 = .ok (.isub, 1) := by decide +kernel
theorem dX8_tell_35 : decode cX8_tell 35 = .ok (.iload 4, 2) := by decide +kernel
theorem dX8_tell_37 : decode cX8_tell 37 = .ok (.isub, 1) := by decide +kernel
theorem dX8_tell_38 : decode cX8_tell 38 = .ok (.invokestatic 15, 3) := by decide +kernel
theorem dX8_tell_41 : decode cX8_tell 41 = .ok (.iastore, 1) := by decide +kernel
theorem dX8_tell_42 : decode cX8_tell 42 = .ok (.iinc 4 1, 3) := by decide +kernel
theorem dX8_tell_45 : decode cX8_tell 45 = .ok (.goto (-32), 3) := by decide +kernel
theorem dX8_tell_48 : decode cX8_tell 48 = .ok (.return_, 1) := by decide +kernel
theorem dX8_at_0 : decode cX8_at 0 = .ok (.iload_n 1, 1) := by decide +kernel
theorem dX8_at_1 : decode cX8_at 1 = .ok (.bipush 7, 2) := by decide +kernel
theorem dX8_at_3 : decode cX8_at 3 = .ok (.invokestatic 33, 3) := by decide +kernel
theorem dX8_at_6 : decode cX8_at 6 = .ok (.ifCond .eq 12, 3) := by decide +kernel
theorem dX8_at_9 : decode cX8_at 9 = .ok (.aload_n 0, 1) := by decide +kernel
theorem dX8_at_10 : decode cX8_at 10 = .ok (.getfield 9, 3) := by decide +kernel
theorem dX8_at_13 : decode cX8_at 13 = .ok (.iload_n 1, 1) := by decide +kernel
theorem dX8_at_14 : decode cX8_at 14 = .ok (.iaload, 1) := by decide +kernel
theorem dX8_at_15 : decode cX8_at 15 = .ok (.goto 5, 3) := by decide +kernel
theorem dX8_at_18 : decode cX8_at 18 = .ok (.bipush (-9), 2) := by decide +kernel
theorem dX8_at_20 : decode cX8_at 20 = .ok (.ireturn, 1) := by decide +kernel
theorem dX9_init_0 : decode cX9_init 0 = .ok (.aload_n 0, 1) := by decide +kernel
theorem dX9_init_1 : decode cX9_init 1 = .ok (.invokespecial 1, 3) := by decide +kernel
theorem dX9_init_4 : decode cX9_init 4 = .ok (.aload_n 0, 1) := by decide +kernel
theorem dX9_init_5 : decode cX9_init 5 = .ok (.new 7, 3) := by decide +kernel
theorem dX9_init_8 : decode cX9_init 8 = .ok (.dup, 1) := by decide +kernel
theorem dX9_init_9 : decode cX9_init 9 = .ok (.invokespecial 9, 3) := by decide +kernel
theorem dX9_init_12 : decode cX9_init 12 = .ok (.putfield 10, 3) := by decide +kernel
theorem dX9_init_15 : decode cX9_init 15 = .ok (.aload_n 0, 1) := by decide +kernel
theorem dX9_init_16 : decode cX9_init 16 = .ok (.new 16, 3) := by decide +kernel
theorem dX9_init_19 : decode cX9_init 19 = .ok (.dup, 1) := by decide +kernel
theorem dX9_init_20 : decode cX9_init 20 = .ok (.invokespecial 18, 3) := by decide +kernel
theorem dX9_init_23 : decode cX9_init 23 = .ok (.putfield 19, 3) := by decide +kernel
theorem dX9_init_26 : decode cX9_init 26 = .ok (.aload_n 0, 1) := by decide +kernel
theorem dX9_init_27 : decode cX9_init 27 = .ok (.new 23, 3) := by decide +kernel
theorem dX9_init_30 : decode cX9_init 30 = .ok (.dup, 1) := by decide +kernel
theorem dX9_init_31 : decode cX9_init 31 = .ok (.invokespecial 25, 3) := by decide +kernel
theorem dX9_init_34 : decode cX9_init 34 = .ok (.putfield 26, 3) := by decide +kernel
theorem dX9_init_37 : decode cX9_init 37 = .ok (.aload_n 0, 1) := by decide +kernel
theorem dX9_init_38 : decode cX9_init 38 = .ok (.new 23, 3) := by decide +kernel
theorem dX9_init_41 : decode cX9_init 41 = .ok (.dup, 1) := by decide +kernel
theorem dX9_init_42 : decode cX9_init 42 = .ok (.invokespecial 25, 3) := by decide +kernel
theorem dX9_init_45 : decode cX9_init 45 = .ok (.putfield 30, 3) := by decide +kernel
theorem dX9_init_48 : decode cX9_init 48 = .ok (.aload_n 0, 1) := by decide +kernel
theorem dX9_init_49 : decode cX9_init 49 = .ok (.new 33, 3) := by decide +kernel
theorem dX9_init_52 : decode cX9_init 52 = .ok (.dup, 1) := by decide +kernel
theorem dX9_init_53 : decode cX9_init 53 = .ok (.invokespecial 35, 3) := by decide +kernel
theorem dX9_init_56 : decode cX9_init 56 = .ok (.putfield 36, 3) := by decide +kernel
theorem dX9_init_59 : decode cX9_init 59 = .ok (.aload_n 0, 1) := by decide +kernel
theorem dX9_init_60 : decode cX9_init 60 = .ok (.new 40, 3) := by decide +kernel
theorem dX9_init_63 : decode cX9_init 63 = .ok (.dup, 1) := by decide +kernel
theorem dX9_init_64 : decode cX9_init 64 = .ok (.invokespecial 42, 3) := by decide +kernel
theorem dX9_init_67 : decode cX9_init 67 = .ok (.putfield 43, 3) := by decide +kernel
theorem dX9_init_70 : decode cX9_init 70 = .ok (.aload_n 0, 1) := by decide +kernel
theorem dX9_init_71 : decode cX9_init 71 = .ok (.new 47, 3) := by decide +kernel
theorem dX9_init_74 : decode cX9_init 74 = .ok (.dup, 1) := by decide +kernel
theorem dX9_init_75 : decode cX9_init 75 = .ok (.invokespecial 49, 3) := by decide +kernel
theorem dX9_init_78 : decode cX9_init 78 = .ok (.putfield 50, 3) := by decide +kernel
theorem dX9_init_81 : decode cX9_init 81 = .ok (.aload_n 0, 1) := by decide +kernel
theorem dX9_init_82 : decode cX9_init 82 = .ok (.iconst 2, 1) := by decide +kernel
theorem dX9_init_83 : decode cX9_init 83 = .ok (.anewarray 54, 3) := by decide +kernel
theorem dX9_init_86 : decode cX9_init 86 = .ok (.putfield 56, 3) := by decide +kernel
theorem dX9_init_89 : decode cX9_init 89 = .ok (.aload_n 0, 1) := by decide +kernel
theorem dX9_init_90 : decode cX9_init 90 = .ok (.iconst 4, 1) := by decide +kernel
theorem dX9_init_91 : decode cX9_init 91 = .ok (.newarray .int, 2) := by decide +kernel
theorem dX9_init_93 : decode cX9_init 93 = .ok (.putfield 60, 3) := by decide +kernel
theorem dX9_init_96 : decode cX9_init 96 = .ok (.aload_n 0, 1) := by decide +kernel
theorem dX9_init_97 : decode cX9_init 97 = .ok (.iconst 4, 1) := by decide +kernel
theorem dX9_init_98 : decode cX9_init 98 = .ok (.newarray .int, 2) := by decide +kernel
theorem dX9_init_100 : decode cX9_init 100 = .ok (.putfield 64, 3) := by decide +kernel
theorem dX9_init_103 : decode cX9_init 103 = .ok (.iconst 0, 1) := by decide +kernel
theorem dX9_init_104 : decode cX9_init 104 = .ok (.istore_n 1, 1) := by decide +kernel
theorem dX9_init_105 : decode cX9_init 105 = .ok (.iload_n 1, 1) := by decide +kernel
theorem dX9_init_106 : decode cX9_init 106 = .ok (.iconst 2, 1) := by decide +kernel
theorem dX9_init_107 : decode cX9_init 107 = .ok (.if_icmp .ge 22, 3) := by decide +kernel
theorem dX9_init_110 : decode cX9_init 110 = .ok (.aload_n 0, 1) := by decide +kernel
theorem dX9_init_111 : decode cX9_init 111 = .ok (.getfield 56, 3) := by decide +kernel
theorem dX9_init_114 : decode cX9_init 114 = .ok (.iload_n 1, 1) := by decide +kernel
theorem dX9_init_115 : decode cX9_init 115 = .ok (.new 54, 3) := by decide +kernel
theorem dX9_init_118 : decode cX9_init 118 = .ok (.dup, 1) := by decide +kernel
theorem dX9_init_119 : decode cX9_init 119 = .ok (.invokespecial 67, 3) := by decide +kernel
theorem dX9_init_122 : decode cX9_init 122 = .ok (.aastore, 1) := by decide +kernel
theorem dX9_init_123 : decode cX9_init 123 = .ok (.iinc 1 1, 3) := by decide +kernel
theorem dX9_init_126 : decode cX9_init 126 = .ok (.goto (-21), 3) := by decide +kernel
theorem dX9_init_129 : decode cX9_init 129 = .ok (.return_, 1) := by decide +kernel
theorem dX9_write_0 : decode cX9_write 0 = .ok (.iload_n 1, 1) := by decide +kernel
theorem dX9_write_1 : decode cX9_write 1 = .ok (.sipush 255, 3) := by decide +kernel
theorem dX9_write_4 : decode cX9_write 4 = .ok (.invokestatic 68, 3) := by decide +kernel
theorem dX9_write_7 : decode cX9_write 7 = .ok (.ifCond .ne 6, 3) := by decide +kernel
theorem dX9_write_10 : decode cX9_write 10 = .ok (.bipush (-2), 2) := by decide +kernel
theorem dX9_write_12 : decode cX9_write 12 = .ok (.ireturn, 1) := by decide +kernel
theorem dX9_write_13 : decode cX9_write 13 = .ok (.aload_n 0, 1) := by decide +kernel
theorem dX9_write_14 : decode cX9_write 14 = .ok (.getfield 10, 3) := by decide +kernel
theorem dX9_write_17 : decode cX9_write 17 = .ok (.iload_n 1, 1) := by decide +kernel
theorem dX9_write_18 : decode cX9_write 18 = .ok (.invokevirtual 72, 3) := by decide +kernel
theorem dX9_write_21 : decode cX9_write 21 = .ok (.ifCond .eq 13, 3) := by decide +kernel
theorem dX9_write_24 : decode cX9_write 24 = .ok (.aload_n 0, 1) := by decide +kernel
theorem dX9_write_25 : decode cX9_write 25 = .ok (.getfield 10, 3) := by decide +kernel
theorem dX9_write_28 : decode cX9_write 28 = .ok (.getfield 76, 3) := by decide +kernel
theorem dX9_write_31 : decode cX9_write 31 = .ok (.goto 5, 3) := by decide +kernel
theorem dX9_write_34 : decode cX9_write 34 = .ok (.bipush (-4), 2) := by decide +kernel
theorem dX9_write_36 : decode cX9_write 36 = .ok (.ireturn, 1) := by decide +kernel
theorem dX9_wipe_0 : decode cX9_wipe 0 = .ok (.aload_n 0, 1) := by decide +kernel
theorem dX9_wipe_1 : decode cX9_wipe 1 = .ok (.getfield 10, 3) := by decide +kernel
theorem dX9_wipe_4 : decode cX9_wipe 4 = .ok (.getfield 76, 3) := by decide +kernel
theorem dX9_wipe_7 : decode cX9_wipe 7 = .ok (.istore_n 1, 1) := by decide +kernel
theorem dX9_wipe_8 : decode cX9_wipe 8 = .ok (.aload_n 0, 1) := by decide +kernel
theorem dX9_wipe_9 : decode cX9_wipe 9 = .ok (.getfield 10, 3) := by decide +kernel
theorem dX9_wipe_12 : decode cX9_wipe 12 = .ok (.iconst 0, 1) := by decide +kernel
theorem dX9_wipe_13 : decode cX9_wipe 13 = .ok (.putfield 76, 3) := by decide +kernel
theorem dX9_wipe_16 : decode cX9_wipe 16 = .ok (.iload_n 1, 1) := by decide +kernel
theorem dX9_wipe_17 : decode cX9_wipe 17 = .ok (.ireturn, 1) := by decide +kernel
theorem dX9_fault_0 : decode cX9_fault 0 = .ok (.aload_n 0, 1) := by decide +kernel
theorem dX9_fault_1 : decode cX9_fault 1 = .ok (.getfield 10, 3) := by decide +kernel
theorem dX9_fault_4 : decode cX9_fault 4 = .ok (.invokevirtual 80, 3) := by decide +kernel
theorem dX9_fault_7 : decode cX9_fault 7 = .ok (.ireturn, 1) := by decide +kernel
theorem dX9_desk_0 : decode cX9_desk 0 = .ok (.aload_n 0, 1) := by decide +kernel
theorem dX9_desk_1 : decode cX9_desk 1 = .ok (.getfield 10, 3) := by decide +kernel
theorem dX9_desk_4 : decode cX9_desk 4 = .ok (.invokevirtual 80, 3) := by decide +kernel
theorem dX9_desk_7 : decode cX9_desk 7 = .ok (.bipush (-9), 2) := by decide +kernel
theorem dX9_desk_9 : decode cX9_desk 9 = .ok (.if_icmp .eq 6, 3) := by decide +kernel
theorem dX9_desk_12 : decode cX9_desk 12 = .ok (.bipush (-3), 2) := by decide +kernel
theorem dX9_desk_14 : decode cX9_desk 14 = .ok (.ireturn, 1) := by decide +kernel
theorem dX9_desk_15 : decode cX9_desk 15 = .ok (.aload_n 0, 1) := by decide +kernel
theorem dX9_desk_16 : decode cX9_desk 16 = .ok (.getfield 10, 3) := by decide +kernel
theorem dX9_desk_19 : decode cX9_desk 19 = .ok (.aload_n 0, 1) := by decide +kernel
theorem dX9_desk_20 : decode cX9_desk 20 = .ok (.getfield 26, 3) := by decide +kernel
theorem dX9_desk_23 : decode cX9_desk 23 = .ok (.invokevirtual 84, 3) := by decide +kernel
theorem dX9_desk_26 : decode cX9_desk 26 = .ok (.aload_n 0, 1) := by decide +kernel
theorem dX9_desk_27 : decode cX9_desk 27 = .ok (.getfield 36, 3) := by decide +kernel
theorem dX9_desk_30 : decode cX9_desk 30 = .ok (.invokevirtual 88, 3) := by decide +kernel
theorem dX9_desk_33 : decode cX9_desk 33 = .ok (.iconst 0, 1) := by decide +kernel
theorem dX9_desk_34 : decode cX9_desk 34 = .ok (.istore_n 1, 1) := by decide +kernel
theorem dX9_desk_35 : decode cX9_desk 35 = .ok (.iload_n 1, 1) := by decide +kernel
theorem dX9_desk_36 : decode cX9_desk 36 = .ok (.iconst 2, 1) := by decide +kernel
theorem dX9_desk_37 : decode cX9_desk 37 = .ok (.if_icmp .ge 19, 3) := by decide +kernel
theorem dX9_desk_40 : decode cX9_desk 40 = .ok (.aload_n 0, 1) := by decide +kernel
theorem dX9_desk_41 : decode cX9_desk 41 = .ok (.getfield 56, 3) := by decide +kernel
theorem dX9_desk_44 : decode cX9_desk 44 = .ok (.iload_n 1, 1) := by decide +kernel
theorem dX9_desk_45 : decode cX9_desk 45 = .ok (.aaload, 1) := by decide +kernel
theorem dX9_desk_46 : decode cX9_desk 46 = .ok (.iconst 0, 1) := by decide +kernel
theorem dX9_desk_47 : decode cX9_desk 47 = .ok (.putfield 91, 3) := by decide +kernel
theorem dX9_desk_50 : decode cX9_desk 50 = .ok (.iinc 1 1, 3) := by decide +kernel
theorem dX9_desk_53 : decode cX9_desk 53 = .ok (.goto (-18), 3) := by decide +kernel
theorem dX9_desk_56 : decode cX9_desk 56 = .ok (.aload_n 0, 1) := by decide +kernel
theorem dX9_desk_57 : decode cX9_desk 57 = .ok (.getfield 26, 3) := by decide +kernel
theorem dX9_desk_60 : decode cX9_desk 60 = .ok (.getfield 95, 3) := by decide +kernel
theorem dX9_desk_63 : decode cX9_desk 63 = .ok (.ireturn, 1) := by decide +kernel
theorem dX9_word_0 : decode cX9_word 0 = .ok (.iload_n 1, 1) := by decide +kernel
theorem dX9_word_1 : decode cX9_word 1 = .ok (.bipush 8, 2) := by decide +kernel
theorem dX9_word_3 : decode cX9_word 3 = .ok (.invokestatic 68, 3) := by decide +kernel
theorem dX9_word_6 : decode cX9_word 6 = .ok (.ifCond .eq 19, 3) := by decide +kernel
theorem dX9_word_9 : decode cX9_word 9 = .ok (.lload_n 2, 1) := by decide +kernel
theorem dX9_word_10 : decode cX9_word 10 = .ok (.iload_n 1, 1) := by decide +kernel
theorem dX9_word_11 : decode cX9_word 11 = .ok (.invokestatic 98, 3) := by decide +kernel
theorem dX9_word_14 : decode cX9_word 14 = .ok (.ifCond .eq 11, 3) := by decide +kernel
theorem dX9_word_17 : decode cX9_word 17 = .ok (.iload_n 1, 1) := by decide +kernel
theorem dX9_word_18 : decode cX9_word 18 = .ok (.lload_n 2, 1) := by decide +kernel
theorem dX9_word_19 : decode cX9_word 19 = .ok (.invokestatic 102, 3) := by decide +kernel
theorem dX9_word_22 : decode cX9_word 22 = .ok (.ifCond .ne 6, 3) := by decide +kernel
theorem dX9_word_25 : decode cX9_word 25 = .ok (.bipush (-2), 2) := by decide +kernel
theorem dX9_word_27 : decode cX9_word 27 = .ok (.ireturn, 1) := by decide +kernel
theorem dX9_word_28 : decode cX9_word 28 = .ok (.aload_n 0, 1) := by decide +kernel
theorem dX9_word_29 : decode cX9_word 29 = .ok (.getfield 19, 3) := by decide +kernel
theorem dX9_word_32 : decode cX9_word 32 = .ok (.getfield 106, 3) := by decide +kernel
theorem dX9_word_35 : decode cX9_word 35 = .ok (.istore 4, 2) := by decide +kernel
theorem dX9_word_37 : decode cX9_word 37 = .ok (.aload_n 0, 1) := by decide +kernel
theorem dX9_word_38 : decode cX9_word 38 = .ok (.getfield 19, 3) := by decide +kernel
theorem dX9_word_41 : decode cX9_word 41 = .ok (.iload_n 1, 1) := by decide +kernel
theorem dX9_word_42 : decode cX9_word 42 = .ok (.lload_n 2, 1) := by decide +kernel
theorem dX9_word_43 : decode cX9_word 43 = .ok (.invokevirtual 107, 3) := by decide +kernel
theorem dX9_word_46 : decode cX9_word 46 = .ok (.iload 4, 2) := by decide +kernel
theorem dX9_word_48 : decode cX9_word 48 = .ok (.ireturn, 1) := by decide +kernel
theorem dX9_pen_0 : decode cX9_pen 0 = .ok (.aload_n 0, 1) := by decide +kernel
theorem dX9_pen_1 : decode cX9_pen 1 = .ok (.getfield 26, 3) := by decide +kernel
theorem dX9_pen_4 : decode cX9_pen 4 = .ok (.iload_n 1, 1) := by decide +kernel
theorem dX9_pen_5 : decode cX9_pen 5 = .ok (.invokevirtual 111, 3) := by decide +kernel
theorem dX9_pen_8 : decode cX9_pen 8 = .ok (.astore_n 3, 1) := by decide +kernel
theorem dX9_pen_9 : decode cX9_pen 9 = .ok (.aload_n 3, 1) := by decide +kernel
theorem dX9_pen_10 : decode cX9_pen 10 = .ok (.ifnonnull 5, 3) := by decide +kernel
theorem dX9_pen_13 : decode cX9_pen 13 = .ok (.iconst (-1), 1) := by decide +kernel
theorem dX9_pen_14 : decode cX9_pen 14 = .ok (.ireturn, 1) := by decide +kernel
theorem dX9_pen_15 : decode cX9_pen 15 = .ok (.iload_n 2, 1) := by decide +kernel
theorem dX9_pen_16 : decode cX9_pen 16 = .ok (.tableswitch 88 0 6 #[44, 49, 54, 59, 64, 69, 82], 44) := by decide +kernel
theorem dX9_pen_60 : decode cX9_pen 60 = .ok (.aload_n 3, 1) := by decide +kernel
theorem dX9_pen_61 : decode cX9_pen 61 = .ok (.getfield 115, 3) := by decide +kernel
theorem dX9_pen_64 : decode cX9_pen 64 = .ok (.ireturn, 1) := by decide +kernel
theorem dX9_pen_65 : decode cX9_pen 65 = .ok (.aload_n 3, 1) := by decide +kernel
theorem dX9_pen_66 : decode cX9_pen 66 = .ok (.getfield 120, 3) := by decide +kernel
theorem dX9_pen_69 : decode cX9_pen 69 = .ok (.ireturn, 1) := by decide +kernel
theorem dX9_pen_70 : decode cX9_pen 70 = .ok (.aload_n 3, 1) := by decide +kernel
theorem dX9_pen_71 : decode cX9_pen 71 = .ok (.invokevirtual 123, 3) := by decide +kernel
theorem dX9_pen_74 : decode cX9_pen 74 = .ok (.ireturn, 1) := by decide +kernel
theorem dX9_pen_75 : decode cX9_pen 75 = .ok (.aload_n 3, 1) := by decide +kernel
theorem dX9_pen_76 : decode cX9_pen 76 = .ok (.getfield 126, 3) := by decide +kernel
theorem dX9_pen_79 : decode cX9_pen 79 = .ok (.ireturn, 1) := by decide +kernel
theorem dX9_pen_80 : decode cX9_pen 80 = .ok (.aload_n 3, 1) := by decide +kernel
theorem dX9_pen_81 : decode cX9_pen 81 = .ok (.getfield 129, 3) := by decide +kernel
theorem dX9_pen_84 : decode cX9_pen 84 = .ok (.ireturn, 1) := by decide +kernel
theorem dX9_pen_85 : decode cX9_pen 85 = .ok (.aload_n 3, 1) := by decide +kernel
theorem dX9_pen_86 : decode cX9_pen 86 = .ok (.getfield 132, 3) := by decide +kernel
theorem dX9_pen_89 : decode cX9_pen 89 = .ok (.ifCond .eq 7, 3) := by decide +kernel
theorem dX9_pen_92 : decode cX9_pen 92 = .ok (.iconst 1, 1) := by decide +kernel
theorem dX9_pen_93 : decode cX9_pen 93 = .ok (.goto 4, 3) := by decide +kernel
theorem dX9_pen_96 : decode cX9_pen 96 = .ok (.iconst 0, 1) := by decide +kernel
theorem dX9_pen_97 : decode cX9_pen 97 = .ok (.ireturn, 1) := by decide +kernel
theorem dX9_pen_98 : decode cX9_pen 98 = .ok (.aload_n 0, 1) := by decide +kernel
theorem dX9_pen_99 : decode cX9_pen 99 = .ok (.iload_n 1, 1) := by decide +kernel
theorem dX9_pen_100 : decode cX9_pen 100 = .ok (.invokevirtual 135, 3) := by decide +kernel
theorem dX9_pen_103 : decode cX9_pen 103 = .ok (.ireturn, 1) := by decide +kernel
theorem dX9_pen_104 : decode cX9_pen 104 = .ok (.bipush (-2), 2) := by decide +kernel
theorem dX9_pen_106 : decode cX9_pen 106 = .ok (.ireturn, 1) := by decide +kernel
theorem dX9_dot_0 : decode cX9_dot 0 = .ok (.iload_n 1, 1) := by decide +kernel
theorem dX9_dot_1 : decode cX9_dot 1 = .ok (.invokestatic 139, 3) := by decide +kernel
theorem dX9_dot_4 : decode cX9_dot 4 = .ok (.ifCond .eq 14, 3) := by decide +kernel
theorem dX9_dot_7 : decode cX9_dot 7 = .ok (.aload_n 0, 1) := by decide +kernel
theorem dX9_dot_8 : decode cX9_dot 8 = .ok (.getfield 26, 3) := by decide +kernel
theorem dX9_dot_11 : decode cX9_dot 11 = .ok (.iload_n 1, 1) := by decide +kernel
theorem dX9_dot_12 : decode cX9_dot 12 = .ok (.invokevirtual 142, 3) := by decide +kernel
theorem dX9_dot_15 : decode cX9_dot 15 = .ok (.goto 4, 3) := by decide +kernel
theorem dX9_dot_18 : decode cX9_dot 18 = .ok (.iconst (-1), 1) := by decide +kernel
theorem dX9_dot_19 : decode cX9_dot 19 = .ok (.ireturn, 1) := by decide +kernel
theorem dX9_thick_0 : decode cX9_thick 0 = .ok (.aload_n 0, 1) := by decide +kernel
theorem dX9_thick_1 : decode cX9_thick 1 = .ok (.getfield 26, 3) := by decide +kernel
theorem dX9_thick_4 : decode cX9_thick 4 = .ok (.iload_n 1, 1) := by decide +kernel
theorem dX9_thick_5 : decode cX9_thick 5 = .ok (.invokevirtual 111, 3) := by decide +kernel
theorem dX9_thick_8 : decode cX9_thick 8 = .ok (.astore_n 3, 1) := by decide +kernel
theorem dX9_thick_9 : decode cX9_thick 9 = .ok (.aload_n 3, 1) := by decide +kernel
theorem dX9_thick_10 : decode cX9_thick 10 = .ok (.ifnonnull 5, 3) := by decide +kernel
theorem dX9_thick_13 : decode cX9_thick 13 = .ok (.iconst (-1), 1) := by decide +kernel
theorem dX9_thick_14 : decode cX9_thick 14 = .ok (.ireturn, 1) := by decide +kernel
theorem dX9_thick_15 : decode cX9_thick 15 = .ok (.iload_n 2, 1) := by decide +kernel
theorem dX9_thick_16 : decode cX9_thick 16 = .ok (.invokestatic 145, 3) := by decide +kernel
theorem dX9_thick_19 : decode cX9_thick 19 = .ok (.ifCond .eq 11, 3) := by decide +kernel
theorem dX9_thick_22 : decode cX9_thick 22 = .ok (.aload_n 3, 1) := by decide +kernel
theorem dX9_thick_23 : decode cX9_thick 23 = .ok (.iload_n 2, 1) := by decide +kernel
theorem dX9_thick_24 : decode cX9_thick 24 = .ok (.invokevirtual 148, 3) := by decide +kernel
theorem dX9_thick_27 : decode cX9_thick 27 = .ok (.goto 5, 3) := by decide +kernel
theorem dX9_thick_30 : decode cX9_thick 30 = .ok (.bipush (-2), 2) := by decide +kernel
theorem dX9_thick_32 : decode cX9_thick 32 = .ok (.ireturn, 1) := by decide +kernel
theorem dX9_step_0 : decode cX9_step 0 = .ok (.aload_n 0, 1) := by decide +kernel
theorem dX9_step_1 : decode cX9_step 1 = .ok (.getfield 26, 3) := by decide +kernel
theorem dX9_step_4 : decode cX9_step 4 = .ok (.iload_n 1, 1) := by decide +kernel
theorem dX9_step_5 : decode cX9_step 5 = .ok (.invokevirtual 111, 3) := by decide +kernel
theorem dX9_step_8 : decode cX9_step 8 = .ok (.astore_n 3, 1) := by decide +kernel
theorem dX9_step_9 : decode cX9_step 9 = .ok (.aload_n 3, 1) := by decide +kernel
theorem dX9_step_10 : decode cX9_step 10 = .ok (.ifnonnull 5, 3) := by decide +kernel
theorem dX9_step_13 : decode cX9_step 13 = .ok (.iconst (-1), 1) := by decide +kernel
theorem dX9_step_14 : decode cX9_step 14 = .ok (.ireturn, 1) := by decide +kernel
theorem dX9_step_15 : decode cX9_step 15 = .ok (.iload_n 2, 1) := by decide +kernel
theorem dX9_step_16 : decode cX9_step 16 = .ok (.invokestatic 145, 3) := by decide +kernel
theorem dX9_step_19 : decode cX9_step 19 = .ok (.ifCond .ne 6, 3) := by decide +kernel
theorem dX9_step_22 : decode cX9_step 22 = .ok (.bipush (-2), 2) := by decide +kernel
theorem dX9_step_24 : decode cX9_step 24 = .ok (.ireturn, 1) := by decide +kernel
theorem dX9_step_25 : decode cX9_step 25 = .ok (.aload_n 3, 1) := by decide +kernel
theorem dX9_step_26 : decode cX9_step 26 = .ok (.getfield 115, 3) := by decide +kernel
theorem dX9_step_29 : decode cX9_step 29 = .ok (.iload_n 2, 1) := by decide +kernel
theorem dX9_step_30 : decode cX9_step 30 = .ok (.invokestatic 151, 3) := by decide +kernel
theorem dX9_step_33 : decode cX9_step 33 = .ok (.istore 4, 2) := by decide +kernel
theorem dX9_step_35 : decode cX9_step 35 = .ok (.iload 4, 2) := by decide +kernel
theorem dX9_step_37 : decode cX9_step 37 = .ok (.bipush (-9), 2) := by decide +kernel
theorem dX9_step_39 : decode cX9_step 39 = .ok (.if_icmp .ne 6, 3) := by decide +kernel
theorem dX9_step_42 : decode cX9_step 42 = .ok (.bipush (-3), 2) := by decide +kernel
theorem dX9_step_44 : decode cX9_step 44 = .ok (.ireturn, 1) := by decide +kernel
theorem dX9_step_45 : decode cX9_step 45 = .ok (.aload_n 0, 1) := by decide +kernel
theorem dX9_step_46 : decode cX9_step 46 = .ok (.getfield 36, 3) := by decide +kernel
theorem dX9_step_49 : decode cX9_step 49 = .ok (.aload_n 0, 1) := by decide +kernel
theorem dX9_step_50 : decode cX9_step 50 = .ok (.getfield 26, 3) := by decide +kernel
theorem dX9_step_53 : decode cX9_step 53 = .ok (.iload_n 1, 1) := by decide +kernel
theorem dX9_step_54 : decode cX9_step 54 = .ok (.iload 4, 2) := by decide +kernel
theorem dX9_step_56 : decode cX9_step 56 = .ok (.invokevirtual 155, 3) := by decide +kernel
theorem dX9_step_59 : decode cX9_step 59 = .ok (.aload_n 0, 1) := by decide +kernel
theorem dX9_step_60 : decode cX9_step 60 = .ok (.getfield 26, 3) := by decide +kernel
theorem dX9_step_63 : decode cX9_step 63 = .ok (.aload_n 3, 1) := by decide +kernel
theorem dX9_step_64 : decode cX9_step 64 = .ok (.iload_n 2, 1) := by decide +kernel
theorem dX9_step_65 : decode cX9_step 65 = .ok (.invokevirtual 159, 3) := by decide +kernel
theorem dX9_step_68 : decode cX9_step 68 = .ok (.ireturn, 1) := by decide +kernel
theorem dX9_put_0 : decode cX9_put 0 = .ok (.aload_n 0, 1) := by decide +kernel
theorem dX9_put_1 : decode cX9_put 1 = .ok (.getfield 26, 3) := by decide +kernel
theorem dX9_put_4 : decode cX9_put 4 = .ok (.iload_n 1, 1) := by decide +kernel
theorem dX9_put_5 : decode cX9_put 5 = .ok (.invokevirtual 111, 3) := by decide +kernel
theorem dX9_put_8 : decode cX9_put 8 = .ok (.astore_n 2, 1) := by decide +kernel
theorem dX9_put_9 : decode cX9_put 9 = .ok (.aload_n 2, 1) := by decide +kernel
theorem dX9_put_10 : decode cX9_put 10 = .ok (.ifnonnull 5, 3) := by decide +kernel
theorem dX9_put_13 : decode cX9_put 13 = .ok (.iconst (-1), 1) := by decide +kernel
theorem dX9_put_14 : decode cX9_put 14 = .ok (.ireturn, 1) := by decide +kernel
theorem dX9_put_15 : decode cX9_put 15 = .ok (.aload_n 0, 1) := by decide +kernel
theorem dX9_put_16 : decode cX9_put 16 = .ok (.getfield 36, 3) := by decide +kernel
theorem dX9_put_19 : decode cX9_put 19 = .ok (.aload_n 0, 1) := by decide +kernel
theorem dX9_put_20 : decode cX9_put 20 = .ok (.getfield 26, 3) := by decide +kernel
theorem dX9_put_23 : decode cX9_put 23 = .ok (.iload_n 1, 1) := by decide +kernel
theorem dX9_put_24 : decode cX9_put 24 = .ok (.bipush (-9), 2) := by decide +kernel
theorem dX9_put_26 : decode cX9_put 26 = .ok (.invokevirtual 155, 3) := by decide +kernel
theorem dX9_put_29 : decode cX9_put 29 = .ok (.aload_n 2, 1) := by decide +kernel
theorem dX9_put_30 : decode cX9_put 30 = .ok (.invokevirtual 163, 3) := by decide +kernel
theorem dX9_put_33 : decode cX9_put 33 = .ok (.aload_n 2, 1) := by decide +kernel
theorem dX9_put_34 : decode cX9_put 34 = .ok (.getfield 132, 3) := by decide +kernel
theorem dX9_put_37 : decode cX9_put 37 = .ok (.ifCond .eq 7, 3) := by decide +kernel
theorem dX9_put_40 : decode cX9_put 40 = .ok (.iconst 1, 1) := by decide +kernel
theorem dX9_put_41 : decode cX9_put 41 = .ok (.goto 4, 3) := by decide +kernel
theorem dX9_put_44 : decode cX9_put 44 = .ok (.iconst 0, 1) := by decide +kernel
theorem dX9_put_45 : decode cX9_put 45 = .ok (.ireturn, 1) := by decide +kernel
theorem dX9_dip_0 : decode cX9_dip 0 = .ok (.aload_n 0, 1) := by decide +kernel
theorem dX9_dip_1 : decode cX9_dip 1 = .ok (.getfield 26, 3) := by decide +kernel
theorem dX9_dip_4 : decode cX9_dip 4 = .ok (.iload_n 1, 1) := by decide +kernel
theorem dX9_dip_5 : decode cX9_dip 5 = .ok (.invokevirtual 111, 3) := by decide +kernel
theorem dX9_dip_8 : decode cX9_dip 8 = .ok (.astore_n 2, 1) := by decide +kernel
theorem dX9_dip_9 : decode cX9_dip 9 = .ok (.aload_n 2, 1) := by decide +kernel
theorem dX9_dip_10 : decode cX9_dip 10 = .ok (.ifnonnull 5, 3) := by decide +kernel
theorem dX9_dip_13 : decode cX9_dip 13 = .ok (.iconst (-1), 1) := by decide +kernel
theorem dX9_dip_14 : decode cX9_dip 14 = .ok (.ireturn, 1) := by decide +kernel
theorem dX9_dip_15 : decode cX9_dip 15 = .ok (.aload_n 2, 1) := by decide +kernel
theorem dX9_dip_16 : decode cX9_dip 16 = .ok (.invokevirtual 166, 3) := by decide +kernel
theorem dX9_dip_19 : decode cX9_dip 19 = .ok (.ifCond .eq 6, 3) := by decide +kernel
theorem dX9_dip_22 : decode cX9_dip 22 = .ok (.bipush (-3), 2) := by decide +kernel
theorem dX9_dip_24 : decode cX9_dip 24 = .ok (.ireturn, 1) := by decide +kernel
theorem dX9_dip_25 : decode cX9_dip 25 = .ok (.aload_n 0, 1) := by decide +kernel
theorem dX9_dip_26 : decode cX9_dip 26 = .ok (.getfield 36, 3) := by decide +kernel
theorem dX9_dip_29 : decode cX9_dip 29 = .ok (.aload_n 0, 1) := by decide +kernel
theorem dX9_dip_30 : decode cX9_dip 30 = .ok (.getfield 26, 3) := by decide +kernel
theorem dX9_dip_33 : decode cX9_dip 33 = .ok (.iload_n 1, 1) := by decide +kernel
theorem dX9_dip_34 : decode cX9_dip 34 = .ok (.bipush (-9), 2) := by decide +kernel
theorem dX9_dip_36 : decode cX9_dip 36 = .ok (.invokevirtual 155, 3) := by decide +kernel
theorem dX9_dip_39 : decode cX9_dip 39 = .ok (.aload_n 2, 1) := by decide +kernel
theorem dX9_dip_40 : decode cX9_dip 40 = .ok (.invokevirtual 170, 3) := by decide +kernel
theorem dX9_dip_43 : decode cX9_dip 43 = .ok (.ireturn, 1) := by decide +kernel
theorem dX9_turn_0 : decode cX9_turn 0 = .ok (.aload_n 0, 1) := by decide +kernel
theorem dX9_turn_1 : decode cX9_turn 1 = .ok (.getfield 26, 3) := by decide +kernel
theorem dX9_turn_4 : decode cX9_turn 4 = .ok (.iload_n 1, 1) := by decide +kernel
theorem dX9_turn_5 : decode cX9_turn 5 = .ok (.invokevirtual 111, 3) := by decide +kernel
theorem dX9_turn_8 : decode cX9_turn 8 = .ok (.astore_n 2, 1) := by decide +kernel
theorem dX9_turn_9 : decode cX9_turn 9 = .ok (.aload_n 2, 1) := by decide +kernel
theorem dX9_turn_10 : decode cX9_turn 10 = .ok (.ifnonnull 5, 3) := by decide +kernel
theorem dX9_turn_13 : decode cX9_turn 13 = .ok (.iconst (-1), 1) := by decide +kernel
theorem dX9_turn_14 : decode cX9_turn 14 = .ok (.ireturn, 1) := by decide +kernel
theorem dX9_turn_15 : decode cX9_turn 15 = .ok (.aload_n 0, 1) := by decide +kernel
theorem dX9_turn_16 : decode cX9_turn 16 = .ok (.getfield 36, 3) := by decide +kernel
theorem dX9_turn_19 : decode cX9_turn 19 = .ok (.aload_n 0, 1) := by decide +kernel
theorem dX9_turn_20 : decode cX9_turn 20 = .ok (.getfield 26, 3) := by decide +kernel
theorem dX9_turn_23 : decode cX9_turn 23 = .ok (.iload_n 1, 1) := by decide +kernel
theorem dX9_turn_24 : decode cX9_turn 24 = .ok (.bipush (-9), 2) := by decide +kernel
theorem dX9_turn_26 : decode cX9_turn 26 = .ok (.invokevirtual 155, 3) := by decide +kernel
theorem dX9_turn_29 : decode cX9_turn 29 = .ok (.aload_n 2, 1) := by decide +kernel
theorem dX9_turn_30 : decode cX9_turn 30 = .ok (.invokevirtual 173, 3) := by decide +kernel
theorem dX9_turn_33 : decode cX9_turn 33 = .ok (.aload_n 2, 1) := by decide +kernel
theorem dX9_turn_34 : decode cX9_turn 34 = .ok (.invokevirtual 123, 3) := by decide +kernel
theorem dX9_turn_37 : decode cX9_turn 37 = .ok (.ireturn, 1) := by decide +kernel
theorem dX9_blot_0 : decode cX9_blot 0 = .ok (.iload_n 1, 1) := by decide +kernel
theorem dX9_blot_1 : decode cX9_blot 1 = .ok (.invokestatic 139, 3) := by decide +kernel
theorem dX9_blot_4 : decode cX9_blot 4 = .ok (.ifCond .ne 5, 3) := by decide +kernel
theorem dX9_blot_7 : decode cX9_blot 7 = .ok (.iconst (-1), 1) := by decide +kernel
theorem dX9_blot_8 : decode cX9_blot 8 = .ok (.ireturn, 1) := by decide +kernel
theorem dX9_blot_9 : decode cX9_blot 9 = .ok (.aload_n 0, 1) := by decide +kernel
theorem dX9_blot_10 : decode cX9_blot 10 = .ok (.getfield 26, 3) := by decide +kernel
theorem dX9_blot_13 : decode cX9_blot 13 = .ok (.iload_n 1, 1) := by decide +kernel
theorem dX9_blot_14 : decode cX9_blot 14 = .ok (.invokevirtual 142, 3) := by decide +kernel
theorem dX9_blot_17 : decode cX9_blot 17 = .ok (.ifCond .ne 6, 3) := by decide +kernel
theorem dX9_blot_20 : decode cX9_blot 20 = .ok (.bipush (-3), 2) := by decide +kernel
theorem dX9_blot_22 : decode cX9_blot 22 = .ok (.ireturn, 1) := by decide +kernel
theorem dX9_blot_23 : decode cX9_blot 23 = .ok (.aload_n 0, 1) := by decide +kernel
theorem dX9_blot_24 : decode cX9_blot 24 = .ok (.getfield 36, 3) := by decide +kernel
theorem dX9_blot_27 : decode cX9_blot 27 = .ok (.aload_n 0, 1) := by decide +kernel
theorem dX9_blot_28 : decode cX9_blot 28 = .ok (.getfield 26, 3) := by decide +kernel
theorem dX9_blot_31 : decode cX9_blot 31 = .ok (.bipush (-9), 2) := by decide +kernel
theorem dX9_blot_33 : decode cX9_blot 33 = .ok (.iload_n 1, 1) := by decide +kernel
theorem dX9_blot_34 : decode cX9_blot 34 = .ok (.invokevirtual 155, 3) := by decide +kernel
theorem dX9_blot_37 : decode cX9_blot 37 = .ok (.aload_n 0, 1) := by decide +kernel
theorem dX9_blot_38 : decode cX9_blot 38 = .ok (.getfield 26, 3) := by decide +kernel
theorem dX9_blot_41 : decode cX9_blot 41 = .ok (.iload_n 1, 1) := by decide +kernel
theorem dX9_blot_42 : decode cX9_blot 42 = .ok (.invokevirtual 176, 3) := by decide +kernel
theorem dX9_blot_45 : decode cX9_blot 45 = .ok (.ireturn, 1) := by decide +kernel
theorem dX9_undo_0 : decode cX9_undo 0 = .ok (.aload_n 0, 1) := by decide +kernel
theorem dX9_undo_1 : decode cX9_undo 1 = .ok (.getfield 36, 3) := by decide +kernel
theorem dX9_undo_4 : decode cX9_undo 4 = .ok (.getfield 179, 3) := by decide +kernel
theorem dX9_undo_7 : decode cX9_undo 7 = .ok (.ifCond .ne 6, 3) := by decide +kernel
theorem dX9_undo_10 : decode cX9_undo 10 = .ok (.bipush (-3), 2) := by decide +kernel
theorem dX9_undo_12 : decode cX9_undo 12 = .ok (.ireturn, 1) := by decide +kernel
theorem dX9_undo_13 : decode cX9_undo 13 = .ok (.aload_n 0, 1) := by decide +kernel
theorem dX9_undo_14 : decode cX9_undo 14 = .ok (.getfield 36, 3) := by decide +kernel
theorem dX9_undo_17 : decode cX9_undo 17 = .ok (.aload_n 0, 1) := by decide +kernel
theorem dX9_undo_18 : decode cX9_undo 18 = .ok (.getfield 26, 3) := by decide +kernel
theorem dX9_undo_21 : decode cX9_undo 21 = .ok (.invokevirtual 182, 3) := by decide +kernel
theorem dX9_undo_24 : decode cX9_undo 24 = .ok (.aload_n 0, 1) := by decide +kernel
theorem dX9_undo_25 : decode cX9_undo 25 = .ok (.getfield 36, 3) := by decide +kernel
theorem dX9_undo_28 : decode cX9_undo 28 = .ok (.getfield 179, 3) := by decide +kernel
theorem dX9_undo_31 : decode cX9_undo 31 = .ok (.ireturn, 1) := by decide +kernel
theorem dX9_behind_0 : decode cX9_behind 0 = .ok (.aload_n 0, 1) := by decide +kernel
theorem dX9_behind_1 : decode cX9_behind 1 = .ok (.iload_n 1, 1) := by decide +kernel
theorem dX9_behind_2 : decode cX9_behind 2 = .ok (.invokevirtual 185, 3) := by decide +kernel
theorem dX9_behind_5 : decode cX9_behind 5 = .ok (.astore 4, 2) := by decide +kernel
theorem dX9_behind_7 : decode cX9_behind 7 = .ok (.aload 4, 2) := by decide +kernel
theorem dX9_behind_9 : decode cX9_behind 9 = .ok (.ifnonnull 5, 3) := by decide +kernel
theorem dX9_behind_12 : decode cX9_behind 12 = .ok (.iconst (-1), 1) := by decide +kernel
theorem dX9_behind_13 : decode cX9_behind 13 = .ok (.ireturn, 1) := by decide +kernel
theorem dX9_behind_14 : decode cX9_behind 14 = .ok (.iload_n 2, 1) := by decide +kernel
theorem dX9_behind_15 : decode cX9_behind 15 = .ok (.bipush 8, 2) := by decide +kernel
theorem dX9_behind_17 : decode cX9_behind 17 = .ok (.invokestatic 68, 3) := by decide +kernel
theorem dX9_behind_20 : decode cX9_behind 20 = .ok (.ifCond .eq 11, 3) := by decide +kernel
theorem dX9_behind_23 : decode cX9_behind 23 = .ok (.iload_n 3, 1) := by decide +kernel
theorem dX9_behind_24 : decode cX9_behind 24 = .ok (.iconst 2, 1) := by decide +kernel
theorem dX9_behind_25 : decode cX9_behind 25 = .ok (.invokestatic 68, 3) := by decide +kernel
theorem dX9_behind_28 : decode cX9_behind 28 = .ok (.ifCond .ne 6, 3) := by decide +kernel
theorem dX9_behind_31 : decode cX9_behind 31 = .ok (.bipush (-2), 2) := by decide +kernel
theorem dX9_behind_33 : decode cX9_behind 33 = .ok (.ireturn, 1) := by decide +kernel
theorem dX9_behind_34 : decode cX9_behind 34 = .ok (.aload 4, 2) := by decide +kernel
theorem dX9_behind_36 : decode cX9_behind 36 = .ok (.getfield 126, 3) := by decide +kernel
theorem dX9_behind_39 : decode cX9_behind 39 = .ok (.istore 5, 2) := by decide +kernel
theorem dX9_behind_41 : decode cX9_behind 41 = .ok (.aload_n 0, 1) := by decide +kernel
theorem dX9_behind_42 : decode cX9_behind 42 = .ok (.getfield 30, 3) := by decide +kernel
theorem dX9_behind_45 : decode cX9_behind 45 = .ok (.aload 4, 2) := by decide +kernel
theorem dX9_behind_47 : decode cX9_behind 47 = .ok (.aload_n 0, 1) := by decide +kernel
theorem dX9_behind_48 : decode cX9_behind 48 = .ok (.getfield 19, 3) := by decide +kernel
theorem dX9_behind_51 : decode cX9_behind 51 = .ok (.iload_n 2, 1) := by decide +kernel
theorem dX9_behind_52 : decode cX9_behind 52 = .ok (.invokevirtual 188, 3) := by decide +kernel
theorem dX9_behind_55 : decode cX9_behind 55 = .ok (.pop, 1) := by decide +kernel
theorem dX9_behind_56 : decode cX9_behind 56 = .ok (.iload_n 3, 1) := by decide +kernel
theorem dX9_behind_57 : decode cX9_behind 57 = .ok (.lookupswitch 39 #[(0, 27), (1, 33)], 27) := by decide +kernel
theorem dX9_behind_84 : decode cX9_behind 84 = .ok (.aload 4, 2) := by decide +kernel
theorem dX9_behind_86 : decode cX9_behind 86 = .ok (.getfield 115, 3) := by decide +kernel
theorem dX9_behind_89 : decode cX9_behind 89 = .ok (.ireturn, 1) := by decide +kernel
theorem dX9_behind_90 : decode cX9_behind 90 = .ok (.aload 4, 2) := by decide +kernel
theorem dX9_behind_92 : decode cX9_behind 92 = .ok (.getfield 126, 3) := by decide +kernel
theorem dX9_behind_95 : decode cX9_behind 95 = .ok (.ireturn, 1) := by decide +kernel
theorem dX9_behind_96 : decode cX9_behind 96 = .ok (.iload 5, 2) := by decide +kernel
theorem dX9_behind_98 : decode cX9_behind 98 = .ok (.aload 4, 2) := by decide +kernel
theorem dX9_behind_100 : decode cX9_behind 100 = .ok (.getfield 126, 3) := by decide +kernel
theorem dX9_behind_103 : decode cX9_behind 103 = .ok (.isub, 1) := by decide +kernel
theorem dX9_behind_104 : decode cX9_behind 104 = .ok (.ireturn, 1) := by decide +kernel
theorem dX9_least_0 : decode cX9_least 0 = .ok (.aload_n 0, 1) := by decide +kernel
theorem dX9_least_1 : decode cX9_least 1 = .ok (.getfield 26, 3) := by decide +kernel
theorem dX9_least_4 : decode cX9_least 4 = .ok (.iload_n 1, 1) := by decide +kernel
theorem dX9_least_5 : decode cX9_least 5 = .ok (.invokevirtual 111, 3) := by decide +kernel
theorem dX9_least_8 : decode cX9_least 8 = .ok (.astore 4, 2) := by decide +kernel
theorem dX9_least_10 : decode cX9_least 10 = .ok (.aload 4, 2) := by decide +kernel
theorem dX9_least_12 : decode cX9_least 12 = .ok (.ifnull 10, 3) := by decide +kernel
theorem dX9_least_15 : decode cX9_least 15 = .ok (.iload_n 2, 1) := by decide +kernel
theorem dX9_least_16 : decode cX9_least 16 = .ok (.invokestatic 139, 3) := by decide +kernel
theorem dX9_least_19 : decode cX9_least 19 = .ok (.ifCond .ne 5, 3) := by decide +kernel
theorem dX9_least_22 : decode cX9_least 22 = .ok (.iconst (-1), 1) := by decide +kernel
theorem dX9_least_23 : decode cX9_least 23 = .ok (.ireturn, 1) := by decide +kernel
theorem dX9_least_24 : decode cX9_least 24 = .ok (.iload_n 3, 1) := by decide +kernel
theorem dX9_least_25 : decode cX9_least 25 = .ok (.iconst 2, 1) := by decide +kernel
theorem dX9_least_26 : decode cX9_least 26 = .ok (.invokestatic 68, 3) := by decide +kernel
theorem dX9_least_29 : decode cX9_least 29 = .ok (.ifCond .ne 6, 3) := by decide +kernel
theorem dX9_least_32 : decode cX9_least 32 = .ok (.bipush (-2), 2) := by decide +kernel
theorem dX9_least_34 : decode cX9_least 34 = .ok (.ireturn, 1) := by decide +kernel
theorem dX9_least_35 : decode cX9_least 35 = .ok (.aload_n 0, 1) := by decide +kernel
theorem dX9_least_36 : decode cX9_least 36 = .ok (.getfield 50, 3) := by decide +kernel
theorem dX9_least_39 : decode cX9_least 39 = .ok (.iload_n 2, 1) := by decide +kernel
theorem dX9_least_40 : decode cX9_least 40 = .ok (.aload 4, 2) := by decide +kernel
theorem dX9_least_42 : decode cX9_least 42 = .ok (.invokevirtual 192, 3) := by decide +kernel
theorem dX9_least_45 : decode cX9_least 45 = .ok (.iload_n 3, 1) := by decide +kernel
theorem dX9_least_46 : decode cX9_least 46 = .ok (.lookupswitch 52 #[(0, 26), (1, 39)], 26) := by decide +kernel
theorem dX9_least_72 : decode cX9_least 72 = .ok (.aload_n 0, 1) := by decide +kernel
theorem dX9_least_73 : decode cX9_least 73 = .ok (.getfield 50, 3) := by decide +kernel
theorem dX9_least_76 : decode cX9_least 76 = .ok (.aload 4, 2) := by decide +kernel
theorem dX9_least_78 : decode cX9_least 78 = .ok (.getfield 115, 3) := by decide +kernel
theorem dX9_least_81 : decode cX9_least 81 = .ok (.invokevirtual 196, 3) := by decide +kernel
theorem dX9_least_84 : decode cX9_least 84 = .ok (.ireturn, 1) := by decide +kernel
theorem dX9_least_85 : decode cX9_least 85 = .ok (.aload_n 0, 1) := by decide +kernel
theorem dX9_least_86 : decode cX9_least 86 = .ok (.getfield 50, 3) := by decide +kernel
theorem dX9_least_89 : decode cX9_least 89 = .ok (.aload 4, 2) := by decide +kernel
theorem dX9_least_91 : decode cX9_least 91 = .ok (.getfield 115, 3) := by decide +kernel
theorem dX9_least_94 : decode cX9_least 94 = .ok (.invokevirtual 199, 3) := by decide +kernel
theorem dX9_least_97 : decode cX9_least 97 = .ok (.ireturn, 1) := by decide +kernel
theorem dX9_least_98 : decode cX9_least 98 = .ok (.aload_n 0, 1) := by decide +kernel
theorem dX9_least_99 : decode cX9_least 99 = .ok (.getfield 50, 3) := by decide +kernel
theorem dX9_least_102 : decode cX9_least 102 = .ok (.aload 4, 2) := by decide +kernel
theorem dX9_least_104 : decode cX9_least 104 = .ok (.getfield 115, 3) := by decide +kernel
theorem dX9_least_107 : decode cX9_least 107 = .ok (.invokevirtual 202, 3) := by decide +kernel
theorem dX9_least_110 : decode cX9_least 110 = .ok (.ireturn, 1) := by decide +kernel
theorem dX9_rings_0 : decode cX9_rings 0 = .ok (.aload_n 0, 1) := by decide +kernel
theorem dX9_rings_1 : decode cX9_rings 1 = .ok (.getfield 26, 3) := by decide +kernel
theorem dX9_rings_4 : decode cX9_rings 4 = .ok (.iload_n 1, 1) := by decide +kernel
theorem dX9_rings_5 : decode cX9_rings 5 = .ok (.invokevirtual 111, 3) := by decide +kernel
theorem dX9_rings_8 : decode cX9_rings 8 = .ok (.astore 4, 2) := by decide +kernel
theorem dX9_rings_10 : decode cX9_rings 10 = .ok (.aload 4, 2) := by decide +kernel
theorem dX9_rings_12 : decode cX9_rings 12 = .ok (.ifnonnull 5, 3) := by decide +kernel
theorem dX9_rings_15 : decode cX9_rings 15 = .ok (.iconst (-1), 1) := by decide +kernel
theorem dX9_rings_16 : decode cX9_rings 16 = .ok (.ireturn, 1) := by decide +kernel
theorem dX9_rings_17 : decode cX9_rings 17 = .ok (.iload_n 2, 1) := by decide +kernel
theorem dX9_rings_18 : decode cX9_rings 18 = .ok (.iconst 1, 1) := by decide +kernel
theorem dX9_rings_19 : decode cX9_rings 19 = .ok (.if_icmp .lt 16, 3) := by decide +kernel
theorem dX9_rings_22 : decode cX9_rings 22 = .ok (.iload_n 2, 1) := by decide +kernel
theorem dX9_rings_23 : decode cX9_rings 23 = .ok (.iconst 4, 1) := by decide +kernel
theorem dX9_rings_24 : decode cX9_rings 24 = .ok (.if_icmp .gt 11, 3) := by decide +kernel
theorem dX9_rings_27 : decode cX9_rings 27 = .ok (.iload_n 3, 1) := by decide +kernel
theorem dX9_rings_28 : decode cX9_rings 28 = .ok (.iconst 1, 1) := by decide +kernel
theorem dX9_rings_29 : decode cX9_rings 29 = .ok (.invokestatic 68, 3) := by decide +kernel
theorem dX9_rings_32 : decode cX9_rings 32 = .ok (.ifCond .ne 6, 3) := by decide +kernel
theorem dX9_rings_35 : decode cX9_rings 35 = .ok (.bipush (-2), 2) := by decide +kernel
theorem dX9_rings_37 : decode cX9_rings 37 = .ok (.ireturn, 1) := by decide +kernel
theorem dX9_rings_38 : decode cX9_rings 38 = .ok (.aload_n 0, 1) := by decide +kernel
theorem dX9_rings_39 : decode cX9_rings 39 = .ok (.getfield 50, 3) := by decide +kernel
theorem dX9_rings_42 : decode cX9_rings 42 = .ok (.aload 4, 2) := by decide +kernel
theorem dX9_rings_44 : decode cX9_rings 44 = .ok (.iload_n 2, 1) := by decide +kernel
theorem dX9_rings_45 : decode cX9_rings 45 = .ok (.invokevirtual 205, 3) := by decide +kernel
theorem dX9_rings_48 : decode cX9_rings 48 = .ok (.iload_n 3, 1) := by decide +kernel
theorem dX9_rings_49 : decode cX9_rings 49 = .ok (.ifCond .ne 18, 3) := by decide +kernel
theorem dX9_rings_52 : decode cX9_rings 52 = .ok (.aload_n 0, 1) := by decide +kernel
theorem dX9_rings_53 : decode cX9_rings 53 = .ok (.getfield 50, 3) := by decide +kernel
theorem dX9_rings_56 : decode cX9_rings 56 = .ok (.aload 4, 2) := by decide +kernel
theorem dX9_rings_58 : decode cX9_rings 58 = .ok (.getfield 115, 3) := by decide +kernel
theorem dX9_rings_61 : decode cX9_rings 61 = .ok (.invokevirtual 209, 3) := by decide +kernel
theorem dX9_rings_64 : decode cX9_rings 64 = .ok (.goto 15, 3) := by decide +kernel
theorem dX9_rings_67 : decode cX9_rings 67 = .ok (.aload_n 0, 1) := by decide +kernel
theorem dX9_rings_68 : decode cX9_rings 68 = .ok (.getfield 50, 3) := by decide +kernel
theorem dX9_rings_71 : decode cX9_rings 71 = .ok (.aload 4, 2) := by decide +kernel
theorem dX9_rings_73 : decode cX9_rings 73 = .ok (.getfield 115, 3) := by decide +kernel
theorem dX9_rings_76 : decode cX9_rings 76 = .ok (.invokevirtual 212, 3) := by decide +kernel
theorem dX9_rings_79 : decode cX9_rings 79 = .ok (.ireturn, 1) := by decide +kernel
theorem dX9_judge_0 : decode cX9_judge 0 = .ok (.iload_n 1, 1) := by decide +kernel
theorem dX9_judge_1 : decode cX9_judge 1 = .ok (.iconst 1, 1) := by decide +kernel
theorem dX9_judge_2 : decode cX9_judge 2 = .ok (.if_icmp .lt 18, 3) := by decide +kernel
theorem dX9_judge_5 : decode cX9_judge 5 = .ok (.iload_n 1, 1) := by decide +kernel
theorem dX9_judge_6 : decode cX9_judge 6 = .ok (.iconst 4, 1) := by decide +kernel
theorem dX9_judge_7 : decode cX9_judge 7 = .ok (.if_icmp .gt 13, 3) := by decide +kernel
theorem dX9_judge_10 : decode cX9_judge 10 = .ok (.lload_n 2, 1) := by decide +kernel
theorem dX9_judge_11 : decode cX9_judge 11 = .ok (.iconst 3, 1) := by decide +kernel
theorem dX9_judge_12 : decode cX9_judge 12 = .ok (.iload_n 1, 1) := by decide +kernel
theorem dX9_judge_13 : decode cX9_judge 13 = .ok (.imul, 1) := by decide +kernel
theorem dX9_judge_14 : decode cX9_judge 14 = .ok (.invokestatic 98, 3) := by decide +kernel
theorem dX9_judge_17 : decode cX9_judge 17 = .ok (.ifCond .ne 6, 3) := by decide +kernel
theorem dX9_judge_20 : decode cX9_judge 20 = .ok (.bipush (-2), 2) := by decide +kernel
theorem dX9_judge_22 : decode cX9_judge 22 = .ok (.ireturn, 1) := by decide +kernel
theorem dX9_judge_23 : decode cX9_judge 23 = .ok (.aload_n 0, 1) := by decide +kernel
theorem dX9_judge_24 : decode cX9_judge 24 = .ok (.getfield 30, 3) := by decide +kernel
theorem dX9_judge_27 : decode cX9_judge 27 = .ok (.aload_n 0, 1) := by decide +kernel
theorem dX9_judge_28 : decode cX9_judge 28 = .ok (.getfield 26, 3) := by decide +kernel
theorem dX9_judge_31 : decode cX9_judge 31 = .ok (.invokevirtual 215, 3) := by decide +kernel
theorem dX9_judge_34 : decode cX9_judge 34 = .ok (.iconst 0, 1) := by decide +kernel
theorem dX9_judge_35 : decode cX9_judge 35 = .ok (.istore 4, 2) := by decide +kernel
theorem dX9_judge_37 : decode cX9_judge 37 = .ok (.iload 4, 2) := by decide +kernel
theorem dX9_judge_39 : decode cX9_judge 39 = .ok (.iload_n 1, 1) := by decide +kernel
theorem dX9_judge_40 : decode cX9_judge 40 = .ok (.if_icmp .ge 51, 3) := by decide +kernel
theorem dX9_judge_43 : decode cX9_judge 43 = .ok (.iconst 3, 1) := by decide +kernel
theorem dX9_judge_44 : decode cX9_judge 44 = .ok (.iload_n 1, 1) := by decide +kernel
theorem dX9_judge_45 : decode cX9_judge 45 = .ok (.iconst 1, 1) := by decide +kernel
theorem dX9_judge_46 : decode cX9_judge 46 = .ok (.isub, 1) := by decide +kernel
theorem dX9_judge_47 : decode cX9_judge 47 = .ok (.iload 4, 2) := by decide +kernel
theorem dX9_judge_49 : decode cX9_judge 49 = .ok (.isub, 1) := by decide +kernel
theorem dX9_judge_50 : decode cX9_judge 50 = .ok (.imul, 1) := by decide +kernel
theorem dX9_judge_51 : decode cX9_judge 51 = .ok (.istore 5, 2) := by decide +kernel
theorem dX9_judge_53 : decode cX9_judge 53 = .ok (.aload_n 0, 1) := by decide +kernel
theorem dX9_judge_54 : decode cX9_judge 54 = .ok (.lload_n 2, 1) := by decide +kernel
theorem dX9_judge_55 : decode cX9_judge 55 = .ok (.iload 5, 2) := by decide +kernel
theorem dX9_judge_57 : decode cX9_judge 57 = .ok (.iconst 2, 1) := by decide +kernel
theorem dX9_judge_58 : decode cX9_judge 58 = .ok (.iadd, 1) := by decide +kernel
theorem dX9_judge_59 : decode cX9_judge 59 = .ok (.invokestatic 218, 3) := by decide +kernel
theorem dX9_judge_62 : decode cX9_judge 62 = .ok (.lload_n 2, 1) := by decide +kernel
theorem dX9_judge_63 : decode cX9_judge 63 = .ok (.iload 5, 2) := by decide +kernel
theorem dX9_judge_65 : decode cX9_judge 65 = .ok (.iconst 1, 1) := by decide +kernel
theorem dX9_judge_66 : decode cX9_judge 66 = .ok (.iadd, 1) := by decide +kernel
theorem dX9_judge_67 : decode cX9_judge 67 = .ok (.invokestatic 218, 3) := by decide +kernel
theorem dX9_judge_70 : decode cX9_judge 70 = .ok (.lload_n 2, 1) := by decide +kernel
theorem dX9_judge_71 : decode cX9_judge 71 = .ok (.iload 5, 2) := by decide +kernel
theorem dX9_judge_73 : decode cX9_judge 73 = .ok (.invokestatic 218, 3) := by decide +kernel
theorem dX9_judge_76 : decode cX9_judge 76 = .ok (.invokevirtual 222, 3) := by decide +kernel
theorem dX9_judge_79 : decode cX9_judge 79 = .ok (.ifCond .ne 6, 3) := by decide +kernel
theorem dX9_judge_82 : decode cX9_judge 82 = .ok (.iload 4, 2) := by decide +kernel
theorem dX9_judge_84 : decode cX9_judge 84 = .ok (.ireturn, 1) := by decide +kernel
theorem dX9_judge_85 : decode cX9_judge 85 = .ok (.iinc 4 1, 3) := by decide +kernel
theorem dX9_judge_88 : decode cX9_judge 88 = .ok (.goto (-51), 3) := by decide +kernel
theorem dX9_judge_91 : decode cX9_judge 91 = .ok (.bipush (-9), 2) := by decide +kernel
theorem dX9_judge_93 : decode cX9_judge 93 = .ok (.ireturn, 1) := by decide +kernel
theorem dX9_see_0 : decode cX9_see 0 = .ok (.iload_n 1, 1) := by decide +kernel
theorem dX9_see_1 : decode cX9_see 1 = .ok (.invokestatic 145, 3) := by decide +kernel
theorem dX9_see_4 : decode cX9_see 4 = .ok (.ifCond .eq 12, 3) := by decide +kernel
theorem dX9_see_7 : decode cX9_see 7 = .ok (.iload_n 2, 1) := by decide +kernel
theorem dX9_see_8 : decode cX9_see 8 = .ok (.bipush 6, 2) := by decide +kernel
theorem dX9_see_10 : decode cX9_see 10 = .ok (.invokestatic 68, 3) := by decide +kernel
theorem dX9_see_13 : decode cX9_see 13 = .ok (.ifCond .ne 6, 3) := by decide +kernel
theorem dX9_see_16 : decode cX9_see 16 = .ok (.bipush (-2), 2) := by decide +kernel
theorem dX9_see_18 : decode cX9_see 18 = .ok (.ireturn, 1) := by decide +kernel
theorem dX9_see_19 : decode cX9_see 19 = .ok (.aload_n 0, 1) := by decide +kernel
theorem dX9_see_20 : decode cX9_see 20 = .ok (.getfield 43, 3) := by decide +kernel
theorem dX9_see_23 : decode cX9_see 23 = .ok (.iload_n 1, 1) := by decide +kernel
theorem dX9_see_24 : decode cX9_see 24 = .ok (.iload_n 2, 1) := by decide +kernel
theorem dX9_see_25 : decode cX9_see 25 = .ok (.invokevirtual 226, 3) := by decide +kernel
theorem dX9_see_28 : decode cX9_see 28 = .ok (.ifCond .eq 13, 3) := by decide +kernel
theorem dX9_see_31 : decode cX9_see 31 = .ok (.aload_n 0, 1) := by decide +kernel
theorem dX9_see_32 : decode cX9_see 32 = .ok (.getfield 43, 3) := by decide +kernel
theorem dX9_see_35 : decode cX9_see 35 = .ok (.getfield 228, 3) := by decide +kernel
theorem dX9_see_38 : decode cX9_see 38 = .ok (.goto 5, 3) := by decide +kernel
theorem dX9_see_41 : decode cX9_see 41 = .ok (.bipush (-4), 2) := by decide +kernel
theorem dX9_see_43 : decode cX9_see 43 = .ok (.ireturn, 1) := by decide +kernel
theorem dX9_unsee_0 : decode cX9_unsee 0 = .ok (.aload_n 0, 1) := by decide +kernel
theorem dX9_unsee_1 : decode cX9_unsee 1 = .ok (.getfield 43, 3) := by decide +kernel
theorem dX9_unsee_4 : decode cX9_unsee 4 = .ok (.getfield 228, 3) := by decide +kernel
theorem dX9_unsee_7 : decode cX9_unsee 7 = .ok (.istore_n 1, 1) := by decide +kernel
theorem dX9_unsee_8 : decode cX9_unsee 8 = .ok (.aload_n 0, 1) := by decide +kernel
theorem dX9_unsee_9 : decode cX9_unsee 9 = .ok (.getfield 43, 3) := by decide +kernel
theorem dX9_unsee_12 : decode cX9_unsee 12 = .ok (.iconst 0, 1) := by decide +kernel
theorem dX9_unsee_13 : decode cX9_unsee 13 = .ok (.putfield 228, 3) := by decide +kernel
theorem dX9_unsee_16 : decode cX9_unsee 16 = .ok (.iload_n 1, 1) := by decide +kernel
theorem dX9_unsee_17 : decode cX9_unsee 17 = .ok (.ireturn, 1) := by decide +kernel
theorem dX9_nibs_0 : decode cX9_nibs 0 = .ok (.iload_n 1, 1) := by decide +kernel
theorem dX9_nibs_1 : decode cX9_nibs 1 = .ok (.lookupswitch 43 #[(0, 27), (1, 35)], 27) := by decide +kernel
theorem dX9_nibs_28 : decode cX9_nibs 28 = .ok (.aload_n 0, 1) := by decide +kernel
theorem dX9_nibs_29 : decode cX9_nibs 29 = .ok (.getfield 43, 3) := by decide +kernel
theorem dX9_nibs_32 : decode cX9_nibs 32 = .ok (.invokevirtual 229, 3) := by decide +kernel
theorem dX9_nibs_35 : decode cX9_nibs 35 = .ok (.ireturn, 1) := by decide +kernel
theorem dX9_nibs_36 : decode cX9_nibs 36 = .ok (.aload_n 0, 1) := by decide +kernel
theorem dX9_nibs_37 : decode cX9_nibs 37 = .ok (.getfield 43, 3) := by decide +kernel
theorem dX9_nibs_40 : decode cX9_nibs 40 = .ok (.invokevirtual 232, 3) := by decide +kernel
theorem dX9_nibs_43 : decode cX9_nibs 43 = .ok (.ireturn, 1) := by decide +kernel
theorem dX9_nibs_44 : decode cX9_nibs 44 = .ok (.bipush (-2), 2) := by decide +kernel
theorem dX9_nibs_46 : decode cX9_nibs 46 = .ok (.ireturn, 1) := by decide +kernel
theorem dX9_share_0 : decode cX9_share 0 = .ok (.aload_n 0, 1) := by decide +kernel
theorem dX9_share_1 : decode cX9_share 1 = .ok (.getfield 26, 3) := by decide +kernel
theorem dX9_share_4 : decode cX9_share 4 = .ok (.iload_n 1, 1) := by decide +kernel
theorem dX9_share_5 : decode cX9_share 5 = .ok (.invokevirtual 111, 3) := by decide +kernel
theorem dX9_share_8 : decode cX9_share 8 = .ok (.ifnonnull 5, 3) := by decide +kernel
theorem dX9_share_11 : decode cX9_share 11 = .ok (.iconst (-1), 1) := by decide +kernel
theorem dX9_share_12 : decode cX9_share 12 = .ok (.ireturn, 1) := by decide +kernel
theorem dX9_share_13 : decode cX9_share 13 = .ok (.iconst 0, 1) := by decide +kernel
theorem dX9_share_14 : decode cX9_share 14 = .ok (.istore_n 3, 1) := by decide +kernel
theorem dX9_share_15 : decode cX9_share 15 = .ok (.iconst 0, 1) := by decide +kernel
theorem dX9_share_16 : decode cX9_share 16 = .ok (.istore 4, 2) := by decide +kernel
theorem dX9_share_18 : decode cX9_share 18 = .ok (.iload 4, 2) := by decide +kernel
theorem dX9_share_20 : decode cX9_share 20 = .ok (.iconst 1, 1) := by decide +kernel
theorem dX9_share_21 : decode cX9_share 21 = .ok (.aload_n 0, 1) := by decide +kernel
theorem dX9_share_22 : decode cX9_share 22 = .ok (.getfield 26, 3) := by decide +kernel
theorem dX9_share_25 : decode cX9_share 25 = .ok (.getfield 95, 3) := by decide +kernel
theorem dX9_share_28 : decode cX9_share 28 = .ok (.ishl, 1) := by decide +kernel
theorem dX9_share_29 : decode cX9_share 29 = .ok (.if_icmp .ge 61, 3) := by decide +kernel
theorem dX9_share_32 : decode cX9_share 32 = .ok (.iload 4, 2) := by decide +kernel
theorem dX9_share_34 : decode cX9_share 34 = .ok (.iload_n 1, 1) := by decide +kernel
theorem dX9_share_35 : decode cX9_share 35 = .ok (.ishr, 1) := by decide +kernel
theorem dX9_share_36 : decode cX9_share 36 = .ok (.iconst 1, 1) := by decide +kernel
theorem dX9_share_37 : decode cX9_share 37 = .ok (.iand, 1) := by decide +kernel
theorem dX9_share_38 : decode cX9_share 38 = .ok (.ifCond .ne 46, 3) := by decide +kernel
theorem dX9_share_41 : decode cX9_share 41 = .ok (.iload 4, 2) := by decide +kernel
theorem dX9_share_43 : decode cX9_share 43 = .ok (.invokestatic 235, 3) := by decide +kernel
theorem dX9_share_46 : decode cX9_share 46 = .ok (.istore 5, 2) := by decide +kernel
theorem dX9_share_48 : decode cX9_share 48 = .ok (.iload 5, 2) := by decide +kernel
theorem dX9_share_50 : decode cX9_share 50 = .ok (.invokestatic 240, 3) := by decide +kernel
theorem dX9_share_53 : decode cX9_share 53 = .ok (.aload_n 0, 1) := by decide +kernel
theorem dX9_share_54 : decode cX9_share 54 = .ok (.getfield 26, 3) := by decide +kernel
theorem dX9_share_57 : decode cX9_share 57 = .ok (.getfield 95, 3) := by decide +kernel
theorem dX9_share_60 : decode cX9_share 60 = .ok (.iconst 1, 1) := by decide +kernel
theorem dX9_share_61 : decode cX9_share 61 = .ok (.isub, 1) := by decide +kernel
theorem dX9_share_62 : decode cX9_share 62 = .ok (.iload 5, 2) := by decide +kernel
theorem dX9_share_64 : decode cX9_share 64 = .ok (.isub, 1) := by decide +kernel
theorem dX9_share_65 : decode cX9_share 65 = .ok (.invokestatic 240, 3) := by decide +kernel
theorem dX9_share_68 : decode cX9_share 68 = .ok (.imul, 1) := by decide +kernel
theorem dX9_share_69 : decode cX9_share 69 = .ok (.istore 6, 2) := by decide +kernel
theorem dX9_share_71 : decode cX9_share 71 = .ok (.iload_n 3, 1) := by decide +kernel
theorem dX9_share_72 : decode cX9_share 72 = .ok (.iload 6, 2) := by decide +kernel
theorem dX9_share_74 : decode cX9_share 74 = .ok (.aload_n 0, 1) := by decide +kernel
theorem dX9_share_75 : decode cX9_share 75 = .ok (.iload 4, 2) := by decide +kernel
theorem dX9_share_77 : decode cX9_share 77 = .ok (.iload_n 1, 1) := by decide +kernel
theorem dX9_share_78 : decode cX9_share 78 = .ok (.invokevirtual 243, 3) := by decide +kernel
theorem dX9_share_81 : decode cX9_share 81 = .ok (.imul, 1) := by decide +kernel
theorem dX9_share_82 : decode cX9_share 82 = .ok (.iadd, 1) := by decide +kernel
theorem dX9_share_83 : decode cX9_share 83 = .ok (.istore_n 3, 1) := by decide +kernel
theorem dX9_share_84 : decode cX9_share 84 = .ok (.iinc 4 1, 3) := by decide +kernel
theorem dX9_share_87 : decode cX9_share 87 = .ok (.goto (-69), 3) := by decide +kernel
theorem dX9_share_90 : decode cX9_share 90 = .ok (.iload_n 3, 1) := by decide +kernel
theorem dX9_share_91 : decode cX9_share 91 = .ok (.i2l, 1) := by decide +kernel
theorem dX9_share_92 : decode cX9_share 92 = .ok (.aload_n 0, 1) := by decide +kernel
theorem dX9_share_93 : decode cX9_share 93 = .ok (.getfield 26, 3) := by decide +kernel
theorem dX9_share_96 : decode cX9_share 96 = .ok (.getfield 95, 3) := by decide +kernel
theorem dX9_share_99 : decode cX9_share 99 = .ok (.invokestatic 240, 3) := by decide +kernel
theorem dX9_share_102 : decode cX9_share 102 = .ok (.i2l, 1) := by decide +kernel
theorem dX9_share_103 : decode cX9_share 103 = .ok (.iload_n 2, 1) := by decide +kernel
theorem dX9_share_104 : decode cX9_share 104 = .ok (.invokestatic 246, 3) := by decide +kernel
theorem dX9_share_107 : decode cX9_share 107 = .ok (.ireturn, 1) := by decide +kernel
theorem dX9_rests_0 : decode cX9_rests 0 = .ok (.aload_n 0, 1) := by decide +kernel
theorem dX9_rests_1 : decode cX9_rests 1 = .ok (.getfield 26, 3) := by decide +kernel
theorem dX9_rests_4 : decode cX9_rests 4 = .ok (.iload_n 1, 1) := by decide +kernel
theorem dX9_rests_5 : decode cX9_rests 5 = .ok (.invokevirtual 111, 3) := by decide +kernel
theorem dX9_rests_8 : decode cX9_rests 8 = .ok (.ifnull 14, 3) := by decide +kernel
theorem dX9_rests_11 : decode cX9_rests 11 = .ok (.aload_n 0, 1) := by decide +kernel
theorem dX9_rests_12 : decode cX9_rests 12 = .ok (.getfield 26, 3) := by decide +kernel
theorem dX9_rests_15 : decode cX9_rests 15 = .ok (.iload_n 2, 1) := by decide +kernel
theorem dX9_rests_16 : decode cX9_rests 16 = .ok (.invokevirtual 111, 3) := by decide +kernel
theorem dX9_rests_19 : decode cX9_rests 19 = .ok (.ifnonnull 5, 3) := by decide +kernel
theorem dX9_rests_22 : decode cX9_rests 22 = .ok (.iconst (-1), 1) := by decide +kernel
theorem dX9_rests_23 : decode cX9_rests 23 = .ok (.ireturn, 1) := by decide +kernel
theorem dX9_rests_24 : decode cX9_rests 24 = .ok (.iload_n 1, 1) := by decide +kernel
theorem dX9_rests_25 : decode cX9_rests 25 = .ok (.iload_n 2, 1) := by decide +kernel
theorem dX9_rests_26 : decode cX9_rests 26 = .ok (.if_icmp .eq 11, 3) := by decide +kernel
theorem dX9_rests_29 : decode cX9_rests 29 = .ok (.iload_n 3, 1) := by decide +kernel
theorem dX9_rests_30 : decode cX9_rests 30 = .ok (.iconst 1, 1) := by decide +kernel
theorem dX9_rests_31 : decode cX9_rests 31 = .ok (.invokestatic 68, 3) := by decide +kernel
theorem dX9_rests_34 : decode cX9_rests 34 = .ok (.ifCond .ne 6, 3) := by decide +kernel
theorem dX9_rests_37 : decode cX9_rests 37 = .ok (.bipush (-2), 2) := by decide +kernel
theorem dX9_rests_39 : decode cX9_rests 39 = .ok (.ireturn, 1) := by decide +kernel
theorem dX9_rests_40 : decode cX9_rests 40 = .ok (.iconst 0, 1) := by decide +kernel
theorem dX9_rests_41 : decode cX9_rests 41 = .ok (.istore 4, 2) := by decide +kernel
theorem dX9_rests_43 : decode cX9_rests 43 = .ok (.iload 4, 2) := by decide +kernel
theorem dX9_rests_45 : decode cX9_rests 45 = .ok (.iconst 4, 1) := by decide +kernel
theorem dX9_rests_46 : decode cX9_rests 46 = .ok (.if_icmp .ge 17, 3) := by decide +kernel
theorem dX9_rests_49 : decode cX9_rests 49 = .ok (.aload_n 0, 1) := by decide +kernel
theorem dX9_rests_50 : decode cX9_rests 50 = .ok (.iload_n 1, 1) := by decide +kernel
theorem dX9_rests_51 : decode cX9_rests 51 = .ok (.iload_n 2, 1) := by decide +kernel
theorem dX9_rests_52 : decode cX9_rests 52 = .ok (.iload 4, 2) := by decide +kernel
theorem dX9_rests_54 : decode cX9_rests 54 = .ok (.invokevirtual 250, 3) := by decide +kernel
theorem dX9_rests_57 : decode cX9_rests 57 = .ok (.iinc 4 1, 3) := by decide +kernel
theorem dX9_rests_60 : decode cX9_rests 60 = .ok (.goto (-17), 3) := by decide +kernel
theorem dX9_rests_63 : decode cX9_rests 63 = .ok (.iconst 0, 1) := by decide +kernel
theorem dX9_rests_64 : decode cX9_rests 64 = .ok (.istore 4, 2) := by decide +kernel
theorem dX9_rests_66 : decode cX9_rests 66 = .ok (.bipush (-9), 2) := by decide +kernel
theorem dX9_rests_68 : decode cX9_rests 68 = .ok (.istore 5, 2) := by decide +kernel
theorem dX9_rests_70 : decode cX9_rests 70 = .ok (.iconst 3, 1) := by decide +kernel
theorem dX9_rests_71 : decode cX9_rests 71 = .ok (.istore 6, 2) := by decide +kernel
theorem dX9_rests_73 : decode cX9_rests 73 = .ok (.iload 6, 2) := by decide +kernel
theorem dX9_rests_75 : decode cX9_rests 75 = .ok (.ifCond .lt 35, 3) := by decide +kernel
theorem dX9_rests_78 : decode cX9_rests 78 = .ok (.aload_n 0, 1) := by decide +kernel
theorem dX9_rests_79 : decode cX9_rests 79 = .ok (.iload 6, 2) := by decide +kernel
theorem dX9_rests_81 : decode cX9_rests 81 = .ok (.invokevirtual 254, 3) := by decide +kernel
theorem dX9_rests_84 : decode cX9_rests 84 = .ok (.ifCond .eq 20, 3) := by decide +kernel
theorem dX9_rests_87 : decode cX9_rests 87 = .ok (.iinc 4 1, 3) := by decide +kernel
theorem dX9_rests_90 : decode cX9_rests 90 = .ok (.bipush 10, 2) := by decide +kernel
theorem dX9_rests_92 : decode cX9_rests 92 = .ok (.iload 6, 2) := by decide +kernel
theorem dX9_rests_94 : decode cX9_rests 94 = .ok (.iconst 1, 1) := by decide +kernel
theorem dX9_rests_95 : decode cX9_rests 95 = .ok (.ishr, 1) := by decide +kernel
theorem dX9_rests_96 : decode cX9_rests 96 = .ok (.imul, 1) := by decide +kernel
theorem dX9_rests_97 : decode cX9_rests 97 = .ok (.iload 6, 2) := by decide +kernel
theorem dX9_rests_99 : decode cX9_rests 99 = .ok (.iconst 1, 1) := by decide +kernel
theorem dX9_rests_100 : decode cX9_rests 100 = .ok (.iand, 1) := by decide +kernel
theorem dX9_rests_101 : decode cX9_rests 101 = .ok (.iadd, 1) := by decide +kernel
theorem dX9_rests_102 : decode cX9_rests 102 = .ok (.istore 5, 2) := by decide +kernel
theorem dX9_rests_104 : decode cX9_rests 104 = .ok (.iinc 6 (-1), 3) := by decide +kernel
theorem dX9_rests_107 : decode cX9_rests 107 = .ok (.goto (-34), 3) := by decide +kernel
theorem dX9_rests_110 : decode cX9_rests 110 = .ok (.iload_n 3, 1) := by decide +kernel
theorem dX9_rests_111 : decode cX9_rests 111 = .ok (.ifCond .ne 8, 3) := by decide +kernel
theorem dX9_rests_114 : decode cX9_rests 114 = .ok (.iload 4, 2) := by decide +kernel
theorem dX9_rests_116 : decode cX9_rests 116 = .ok (.goto 5, 3) := by decide +kernel
theorem dX9_rests_119 : decode cX9_rests 119 = .ok (.iload 5, 2) := by decide +kernel
theorem dX9_rests_121 : decode cX9_rests 121 = .ok (.ireturn, 1) := by decide +kernel
theorem dX9_skipped_0 : decode cX9_skipped 0 = .ok (.aload_n 0, 1) := by decide +kernel
theorem dX9_skipped_1 : decode cX9_skipped 1 = .ok (.getfield 26, 3) := by decide +kernel
theorem dX9_skipped_4 : decode cX9_skipped 4 = .ok (.iload_n 1, 1) := by decide +kernel
theorem dX9_skipped_5 : decode cX9_skipped 5 = .ok (.invokevirtual 111, 3) := by decide +kernel
theorem dX9_skipped_8 : decode cX9_skipped 8 = .ok (.astore 5, 2) := by decide +kernel
theorem dX9_skipped_10 : decode cX9_skipped 10 = .ok (.aload 5, 2) := by decide +kernel
theorem dX9_skipped_12 : decode cX9_skipped 12 = .ok (.ifnonnull 5, 3) := by decide +kernel
theorem dX9_skipped_15 : decode cX9_skipped 15 = .ok (.iconst (-1), 1) := by decide +kernel
theorem dX9_skipped_16 : decode cX9_skipped 16 = .ok (.ireturn, 1) := by decide +kernel
theorem dX9_skipped_17 : decode cX9_skipped 17 = .ok (.iload_n 2, 1) := by decide +kernel
theorem dX9_skipped_18 : decode cX9_skipped 18 = .ok (.bipush 99, 2) := by decide +kernel
theorem dX9_skipped_20 : decode cX9_skipped 20 = .ok (.invokestatic 68, 3) := by decide +kernel
theorem dX9_skipped_23 : decode cX9_skipped 23 = .ok (.ifCond .eq 12, 3) := by decide +kernel
theorem dX9_skipped_26 : decode cX9_skipped 26 = .ok (.iload_n 3, 1) := by decide +kernel
theorem dX9_skipped_27 : decode cX9_skipped 27 = .ok (.bipush 10, 2) := by decide +kernel
theorem dX9_skipped_29 : decode cX9_skipped 29 = .ok (.invokestatic 68, 3) := by decide +kernel
theorem dX9_skipped_32 : decode cX9_skipped 32 = .ok (.ifCond .ne 6, 3) := by decide +kernel
theorem dX9_skipped_35 : decode cX9_skipped 35 = .ok (.bipush (-2), 2) := by decide +kernel
theorem dX9_skipped_37 : decode cX9_skipped 37 = .ok (.ireturn, 1) := by decide +kernel
theorem dX9_skipped_38 : decode cX9_skipped 38 = .ok (.aload 5, 2) := by decide +kernel
theorem dX9_skipped_40 : decode cX9_skipped 40 = .ok (.aload_n 0, 1) := by decide +kernel
theorem dX9_skipped_41 : decode cX9_skipped 41 = .ok (.getfield 19, 3) := by decide +kernel
theorem dX9_skipped_44 : decode cX9_skipped 44 = .ok (.iconst 0, 1) := by decide +kernel
theorem dX9_skipped_45 : decode cX9_skipped 45 = .ok (.aload 5, 2) := by decide +kernel
theorem dX9_skipped_47 : decode cX9_skipped 47 = .ok (.getfield 115, 3) := by decide +kernel
theorem dX9_skipped_50 : decode cX9_skipped 50 = .ok (.iconst 0, 1) := by decide +kernel
theorem dX9_skipped_51 : decode cX9_skipped 51 = .ok (.iload_n 2, 1) := by decide +kernel
theorem dX9_skipped_52 : decode cX9_skipped 52 = .ok (.iload_n 3, 1) := by decide +kernel
theorem dX9_skipped_53 : decode cX9_skipped 53 = .ok (.invokestatic 257, 3) := by decide +kernel
theorem dX9_skipped_56 : decode cX9_skipped 56 = .ok (.aload_n 0, 1) := by decide +kernel
theorem dX9_skipped_57 : decode cX9_skipped 57 = .ok (.getfield 19, 3) := by decide +kernel
theorem dX9_skipped_60 : decode cX9_skipped 60 = .ok (.getfield 106, 3) := by decide +kernel
theorem dX9_skipped_63 : decode cX9_skipped 63 = .ok (.invokestatic 261, 3) := by decide +kernel
theorem dX9_skipped_66 : decode cX9_skipped 66 = .ok (.iload 4, 2) := by decide +kernel
theorem dX9_skipped_68 : decode cX9_skipped 68 = .ok (.invokestatic 246, 3) := by decide +kernel
theorem dX9_skipped_71 : decode cX9_skipped 71 = .ok (.ireturn, 1) := by decide +kernel
theorem dX9_seed_0 : decode cX9_seed 0 = .ok (.aload_n 0, 1) := by decide +kernel
theorem dX9_seed_1 : decode cX9_seed 1 = .ok (.getfield 265, 3) := by decide +kernel
theorem dX9_seed_4 : decode cX9_seed 4 = .ok (.lstore_n 3, 1) := by decide +kernel
theorem dX9_seed_5 : decode cX9_seed 5 = .ok (.aload_n 0, 1) := by decide +kernel
theorem dX9_seed_6 : decode cX9_seed 6 = .ok (.lload_n 1, 1) := by decide +kernel
theorem dX9_seed_7 : decode cX9_seed 7 = .ok (.putfield 265, 3) := by decide +kernel
theorem dX9_seed_10 : decode cX9_seed 10 = .ok (.lload_n 3, 1) := by decide +kernel
theorem dX9_seed_11 : decode cX9_seed 11 = .ok (.lreturn, 1) := by decide +kernel
theorem dX9_years_0 : decode cX9_years 0 = .ok (.iload_n 1, 1) := by decide +kernel
theorem dX9_years_1 : decode cX9_years 1 = .ok (.iconst 1, 1) := by decide +kernel
theorem dX9_years_2 : decode cX9_years 2 = .ok (.if_icmp .lt 9, 3) := by decide +kernel
theorem dX9_years_5 : decode cX9_years 5 = .ok (.iload_n 1, 1) := by decide +kernel
theorem dX9_years_6 : decode cX9_years 6 = .ok (.bipush 30, 2) := by decide +kernel
theorem dX9_years_8 : decode cX9_years 8 = .ok (.if_icmp .le 6, 3) := by decide +kernel
theorem dX9_years_11 : decode cX9_years 11 = .ok (.bipush (-2), 2) := by decide +kernel
theorem dX9_years_13 : decode cX9_years 13 = .ok (.ireturn, 1) := by decide +kernel
theorem dX9_years_14 : decode cX9_years 14 = .ok (.aload_n 0, 1) := by decide +kernel
theorem dX9_years_15 : decode cX9_years 15 = .ok (.getfield 30, 3) := by decide +kernel
theorem dX9_years_18 : decode cX9_years 18 = .ok (.aload_n 0, 1) := by decide +kernel
theorem dX9_years_19 : decode cX9_years 19 = .ok (.getfield 26, 3) := by decide +kernel
theorem dX9_years_22 : decode cX9_years 22 = .ok (.invokevirtual 215, 3) := by decide +kernel
theorem dX9_years_25 : decode cX9_years 25 = .ok (.iconst 0, 1) := by decide +kernel
theorem dX9_years_26 : decode cX9_years 26 = .ok (.istore_n 2, 1) := by decide +kernel
theorem dX9_years_27 : decode cX9_years 27 = .ok (.iconst 0, 1) := by decide +kernel
theorem dX9_years_28 : decode cX9_years 28 = .ok (.istore_n 3, 1) := by decide +kernel
theorem dX9_years_29 : decode cX9_years 29 = .ok (.iload_n 3, 1) := by decide +kernel
theorem dX9_years_30 : decode cX9_years 30 = .ok (.iload_n 1, 1) := by decide +kernel
theorem dX9_years_31 : decode cX9_years 31 = .ok (.if_icmp .ge 51, 3) := by decide +kernel
theorem dX9_years_34 : decode cX9_years 34 = .ok (.aload_n 0, 1) := by decide +kernel
theorem dX9_years_35 : decode cX9_years 35 = .ok (.aload_n 0, 1) := by decide +kernel
theorem dX9_years_36 : decode cX9_years 36 = .ok (.getfield 265, 3) := by decide +kernel
theorem dX9_years_39 : decode cX9_years 39 = .ok (.ldc2_w 269, 3) := by decide +kernel
theorem dX9_years_42 : decode cX9_years 42 = .ok (.lmul, 1) := by decide +kernel
theorem dX9_years_43 : decode cX9_years 43 = .ok (.ldc2_w 271, 3) := by decide +kernel
theorem dX9_years_46 : decode cX9_years 46 = .ok (.ladd, 1) := by decide +kernel
theorem dX9_years_47 : decode cX9_years 47 = .ok (.putfield 265, 3) := by decide +kernel
theorem dX9_years_50 : decode cX9_years 50 = .ok (.aload_n 0, 1) := by decide +kernel
theorem dX9_years_51 : decode cX9_years 51 = .ok (.aload_n 0, 1) := by decide +kernel
theorem dX9_years_52 : decode cX9_years 52 = .ok (.getfield 265, 3) := by decide +kernel
theorem dX9_years_55 : decode cX9_years 55 = .ok (.bipush 33, 2) := by decide +kernel
theorem dX9_years_57 : decode cX9_years 57 = .ok (.lushr, 1) := by decide +kernel
theorem dX9_years_58 : decode cX9_years 58 = .ok (.ldc2_w 273, 3) := by decide +kernel
theorem dX9_years_61 : decode cX9_years 61 = .ok (.lrem, 1) := by decide +kernel
theorem dX9_years_62 : decode cX9_years 62 = .ok (.l2i, 1) := by decide +kernel
theorem dX9_years_63 : decode cX9_years 63 = .ok (.invokevirtual 275, 3) := by decide +kernel
theorem dX9_years_66 : decode cX9_years 66 = .ok (.iload_n 2, 1) := by decide +kernel
theorem dX9_years_67 : decode cX9_years 67 = .ok (.aload_n 0, 1) := by decide +kernel
theorem dX9_years_68 : decode cX9_years 68 = .ok (.getfield 30, 3) := by decide +kernel
theorem dX9_years_71 : decode cX9_years 71 = .ok (.invokevirtual 279, 3) := by decide +kernel
theorem dX9_years_74 : decode cX9_years 74 = .ok (.iadd, 1) := by decide +kernel
theorem dX9_years_75 : decode cX9_years 75 = .ok (.istore_n 2, 1) := by decide +kernel
theorem dX9_years_76 : decode cX9_years 76 = .ok (.iinc 3 1, 3) := by decide +kernel
theorem dX9_years_79 : decode cX9_years 79 = .ok (.goto (-50), 3) := by decide +kernel
theorem dX9_years_82 : decode cX9_years 82 = .ok (.iload_n 2, 1) := by decide +kernel
theorem dX9_years_83 : decode cX9_years 83 = .ok (.ireturn, 1) := by decide +kernel
theorem dX9_keep_0 : decode cX9_keep 0 = .ok (.iload_n 1, 1) := by decide +kernel
theorem dX9_keep_1 : decode cX9_keep 1 = .ok (.iconst 1, 1) := by decide +kernel
theorem dX9_keep_2 : decode cX9_keep 2 = .ok (.invokestatic 68, 3) := by decide +kernel
theorem dX9_keep_5 : decode cX9_keep 5 = .ok (.ifCond .ne 5, 3) := by decide +kernel
theorem dX9_keep_8 : decode cX9_keep 8 = .ok (.iconst (-1), 1) := by decide +kernel
theorem dX9_keep_9 : decode cX9_keep 9 = .ok (.ireturn, 1) := by decide +kernel
theorem dX9_keep_10 : decode cX9_keep 10 = .ok (.aload_n 0, 1) := by decide +kernel
theorem dX9_keep_11 : decode cX9_keep 11 = .ok (.getfield 56, 3) := by decide +kernel
theorem dX9_keep_14 : decode cX9_keep 14 = .ok (.iload_n 1, 1) := by decide +kernel
theorem dX9_keep_15 : decode cX9_keep 15 = .ok (.aaload, 1) := by decide +kernel
theorem dX9_keep_16 : decode cX9_keep 16 = .ok (.getfield 282, 3) := by decide +kernel
theorem dX9_keep_19 : decode cX9_keep 19 = .ok (.aload_n 0, 1) := by decide +kernel
theorem dX9_keep_20 : decode cX9_keep 20 = .ok (.getfield 26, 3) := by decide +kernel
theorem dX9_keep_23 : decode cX9_keep 23 = .ok (.invokevirtual 215, 3) := by decide +kernel
theorem dX9_keep_26 : decode cX9_keep 26 = .ok (.aload_n 0, 1) := by decide +kernel
theorem dX9_keep_27 : decode cX9_keep 27 = .ok (.getfield 56, 3) := by decide +kernel
theorem dX9_keep_30 : decode cX9_keep 30 = .ok (.iload_n 1, 1) := by decide +kernel
theorem dX9_keep_31 : decode cX9_keep 31 = .ok (.aaload, 1) := by decide +kernel
theorem dX9_keep_32 : decode cX9_keep 32 = .ok (.iconst 1, 1) := by decide +kernel
theorem dX9_keep_33 : decode cX9_keep 33 = .ok (.putfield 91, 3) := by decide +kernel
theorem dX9_keep_36 : decode cX9_keep 36 = .ok (.aload_n 0, 1) := by decide +kernel
theorem dX9_keep_37 : decode cX9_keep 37 = .ok (.getfield 26, 3) := by decide +kernel
theorem dX9_keep_40 : decode cX9_keep 40 = .ok (.getfield 285, 3) := by decide +kernel
theorem dX9_keep_43 : decode cX9_keep 43 = .ok (.ireturn, 1) := by decide +kernel
theorem dX9_again_0 : decode cX9_again 0 = .ok (.iload_n 1, 1) := by decide +kernel
theorem dX9_again_1 : decode cX9_again 1 = .ok (.iconst 1, 1) := by decide +kernel
theorem dX9_again_2 : decode cX9_again 2 = .ok (.invokestatic 68, 3) := by decide +kernel
theorem dX9_again_5 : decode cX9_again 5 = .ok (.ifCond .ne 5, 3) := by decide +kernel
theorem dX9_again_8 : decode cX9_again 8 = .ok (.iconst (-1), 1) := by decide +kernel
theorem dX9_again_9 : decode cX9_again 9 = .ok (.ireturn, 1) := by decide +kernel
theorem dX9_again_10 : decode cX9_again 10 = .ok (.aload_n 0, 1) := by decide +kernel
theorem dX9_again_11 : decode cX9_again 11 = .ok (.getfield 56, 3) := by decide +kernel
theorem dX9_again_14 : decode cX9_again 14 = .ok (.iload_n 1, 1) := by decide +kernel
theorem dX9_again_15 : decode cX9_again 15 = .ok (.aaload, 1) := by decide +kernel
theorem dX9_again_16 : decode cX9_again 16 = .ok (.getfield 91, 3) := by decide +kernel
theorem dX9_again_19 : decode cX9_again 19 = .ok (.ifCond .ne 6, 3) := by decide +kernel
theorem dX9_again_22 : decode cX9_again 22 = .ok (.bipush (-3), 2) := by decide +kernel
theorem dX9_again_24 : decode cX9_again 24 = .ok (.ireturn, 1) := by decide +kernel
theorem dX9_again_25 : decode cX9_again 25 = .ok (.aload_n 0, 1) := by decide +kernel
theorem dX9_again_26 : decode cX9_again 26 = .ok (.getfield 26, 3) := by decide +kernel
theorem dX9_again_29 : decode cX9_again 29 = .ok (.aload_n 0, 1) := by decide +kernel
theorem dX9_again_30 : decode cX9_again 30 = .ok (.getfield 56, 3) := by decide +kernel
theorem dX9_again_33 : decode cX9_again 33 = .ok (.iload_n 1, 1) := by decide +kernel
theorem dX9_again_34 : decode cX9_again 34 = .ok (.aaload, 1) := by decide +kernel
theorem dX9_again_35 : decode cX9_again 35 = .ok (.getfield 282, 3) := by decide +kernel
theorem dX9_again_38 : decode cX9_again 38 = .ok (.invokevirtual 215, 3) := by decide +kernel
theorem dX9_again_41 : decode cX9_again 41 = .ok (.aload_n 0, 1) := by decide +kernel
theorem dX9_again_42 : decode cX9_again 42 = .ok (.getfield 36, 3) := by decide +kernel
theorem dX9_again_45 : decode cX9_again 45 = .ok (.invokevirtual 88, 3) := by decide +kernel
theorem dX9_again_48 : decode cX9_again 48 = .ok (.aload_n 0, 1) := by decide +kernel
theorem dX9_again_49 : decode cX9_again 49 = .ok (.getfield 26, 3) := by decide +kernel
theorem dX9_again_52 : decode cX9_again 52 = .ok (.getfield 285, 3) := by decide +kernel
theorem dX9_again_55 : decode cX9_again 55 = .ok (.ireturn, 1) := by decide +kernel
theorem dX9_count_0 : decode cX9_count 0 = .ok (.iload_n 1, 1) := by decide +kernel
theorem dX9_count_1 : decode cX9_count 1 = .ok (.tableswitch 135 0 9 #[55, 63, 71, 79, 87, 95, 103, 111, 119, 127], 55) := by decide +kernel
theorem dX9_count_56 : decode cX9_count 56 = .ok (.aload_n 0, 1) := by decide +kernel
theorem dX9_count_57 : decode cX9_count 57 = .ok (.getfield 10, 3) := by decide +kernel
theorem dX9_count_60 : decode cX9_count 60 = .ok (.getfield 76, 3) := by decide +kernel
theorem dX9_count_63 : decode cX9_count 63 = .ok (.ireturn, 1) := by decide +kernel
theorem dX9_count_64 : decode cX9_count 64 = .ok (.aload_n 0, 1) := by decide +kernel
theorem dX9_count_65 : decode cX9_count 65 = .ok (.getfield 26, 3) := by decide +kernel
theorem dX9_count_68 : decode cX9_count 68 = .ok (.getfield 95, 3) := by decide +kernel
theorem dX9_count_71 : decode cX9_count 71 = .ok (.ireturn, 1) := by decide +kernel
theorem dX9_count_72 : decode cX9_count 72 = .ok (.aload_n 0, 1) := by decide +kernel
theorem dX9_count_73 : decode cX9_count 73 = .ok (.getfield 26, 3) := by decide +kernel
theorem dX9_count_76 : decode cX9_count 76 = .ok (.getfield 285, 3) := by decide +kernel
theorem dX9_count_79 : decode cX9_count 79 = .ok (.ireturn, 1) := by decide +kernel
theorem dX9_count_80 : decode cX9_count 80 = .ok (.aload_n 0, 1) := by decide +kernel
theorem dX9_count_81 : decode cX9_count 81 = .ok (.getfield 26, 3) := by decide +kernel
theorem dX9_count_84 : decode cX9_count 84 = .ok (.invokevirtual 279, 3) := by decide +kernel
theorem dX9_count_87 : decode cX9_count 87 = .ok (.ireturn, 1) := by decide +kernel
theorem dX9_count_88 : decode cX9_count 88 = .ok (.aload_n 0, 1) := by decide +kernel
theorem dX9_count_89 : decode cX9_count 89 = .ok (.getfield 26, 3) := by decide +kernel
theorem dX9_count_92 : decode cX9_count 92 = .ok (.invokevirtual 288, 3) := by decide +kernel
theorem dX9_count_95 : decode cX9_count 95 = .ok (.ireturn, 1) := by decide +kernel
theorem dX9_count_96 : decode cX9_count 96 = .ok (.aload_n 0, 1) := by decide +kernel
theorem dX9_count_97 : decode cX9_count 97 = .ok (.getfield 26, 3) := by decide +kernel
theorem dX9_count_100 : decode cX9_count 100 = .ok (.invokevirtual 291, 3) := by decide +kernel
theorem dX9_count_103 : decode cX9_count 103 = .ok (.ireturn, 1) := by decide +kernel
theorem dX9_count_104 : decode cX9_count 104 = .ok (.aload_n 0, 1) := by decide +kernel
theorem dX9_count_105 : decode cX9_count 105 = .ok (.getfield 26, 3) := by decide +kernel
theorem dX9_count_108 : decode cX9_count 108 = .ok (.invokevirtual 294, 3) := by decide +kernel
theorem dX9_count_111 : decode cX9_count 111 = .ok (.ireturn, 1) := by decide +kernel
theorem dX9_count_112 : decode cX9_count 112 = .ok (.aload_n 0, 1) := by decide +kernel
theorem dX9_count_113 : decode cX9_count 113 = .ok (.getfield 19, 3) := by decide +kernel
theorem dX9_count_116 : decode cX9_count 116 = .ok (.getfield 106, 3) := by decide +kernel
theorem dX9_count_119 : decode cX9_count 119 = .ok (.ireturn, 1) := by decide +kernel
theorem dX9_count_120 : decode cX9_count 120 = .ok (.aload_n 0, 1) := by decide +kernel
theorem dX9_count_121 : decode cX9_count 121 = .ok (.getfield 36, 3) := by decide +kernel
theorem dX9_count_124 : decode cX9_count 124 = .ok (.getfield 179, 3) := by decide +kernel
theorem dX9_count_127 : decode cX9_count 127 = .ok (.ireturn, 1) := by decide +kernel
theorem dX9_count_128 : decode cX9_count 128 = .ok (.aload_n 0, 1) := by decide +kernel
theorem dX9_count_129 : decode cX9_count 129 = .ok (.getfield 43, 3) := by decide +kernel
theorem dX9_count_132 : decode cX9_count 132 = .ok (.getfield 228, 3) := by decide +kernel
theorem dX9_count_135 : decode cX9_count 135 = .ok (.ireturn, 1) := by decide +kernel
theorem dX9_count_136 : decode cX9_count 136 = .ok (.bipush (-2), 2) := by decide +kernel
theorem dX9_count_138 : decode cX9_count 138 = .ok (.ireturn, 1) := by decide +kernel
theorem dX9_tried_0 : decode cX9_tried 0 = .ok (.aload_n 0, 1) := by decide +kernel
theorem dX9_tried_1 : decode cX9_tried 1 = .ok (.getfield 30, 3) := by decide +kernel
theorem dX9_tried_4 : decode cX9_tried 4 = .ok (.aload_n 0, 1) := by decide +kernel
theorem dX9_tried_5 : decode cX9_tried 5 = .ok (.getfield 26, 3) := by decide +kernel
theorem dX9_tried_8 : decode cX9_tried 8 = .ok (.invokevirtual 215, 3) := by decide +kernel
theorem dX9_tried_11 : decode cX9_tried 11 = .ok (.aload_n 0, 1) := by decide +kernel
theorem dX9_tried_12 : decode cX9_tried 12 = .ok (.getfield 30, 3) := by decide +kernel
theorem dX9_tried_15 : decode cX9_tried 15 = .ok (.iload_n 1, 1) := by decide +kernel
theorem dX9_tried_16 : decode cX9_tried 16 = .ok (.invokevirtual 111, 3) := by decide +kernel
theorem dX9_tried_19 : decode cX9_tried 19 = .ok (.areturn, 1) := by decide +kernel
theorem dX9_placeOfStop_0 : decode cX9_placeOfStop 0 = .ok (.aload_n 0, 1) := by decide +kernel
theorem dX9_placeOfStop_1 : decode cX9_placeOfStop 1 = .ok (.iload_n 1, 1) := by decide +kernel
theorem dX9_placeOfStop_2 : decode cX9_placeOfStop 2 = .ok (.invokevirtual 185, 3) := by decide +kernel
theorem dX9_placeOfStop_5 : decode cX9_placeOfStop 5 = .ok (.astore_n 2, 1) := by decide +kernel
theorem dX9_placeOfStop_6 : decode cX9_placeOfStop 6 = .ok (.aload_n 2, 1) := by decide +kernel
theorem dX9_placeOfStop_7 : decode cX9_placeOfStop 7 = .ok (.ifnonnull 6, 3) := by decide +kernel
theorem dX9_placeOfStop_10 : decode cX9_placeOfStop 10 = .ok (.bipush (-9), 2) := by decide +kernel
theorem dX9_placeOfStop_12 : decode cX9_placeOfStop 12 = .ok (.ireturn, 1) := by decide +kernel
theorem dX9_placeOfStop_13 : decode cX9_placeOfStop 13 = .ok (.aload_n 0, 1) := by decide +kernel
theorem dX9_placeOfStop_14 : decode cX9_placeOfStop 14 = .ok (.getfield 30, 3) := by decide +kernel
theorem dX9_placeOfStop_17 : decode cX9_placeOfStop 17 = .ok (.aload_n 2, 1) := by decide +kernel
theorem dX9_placeOfStop_18 : decode cX9_placeOfStop 18 = .ok (.aload_n 0, 1) := by decide +kernel
theorem dX9_placeOfStop_19 : decode cX9_placeOfStop 19 = .ok (.getfield 19, 3) := by decide +kernel
theorem dX9_placeOfStop_22 : decode cX9_placeOfStop 22 = .ok (.aload_n 0, 1) := by decide +kernel
theorem dX9_placeOfStop_23 : decode cX9_placeOfStop 23 = .ok (.getfield 19, 3) := by decide +kernel
theorem dX9_placeOfStop_26 : decode cX9_placeOfStop 26 = .ok (.getfield 106, 3) := by decide +kernel
theorem dX9_placeOfStop_29 : decode cX9_placeOfStop 29 = .ok (.invokevirtual 188, 3) := by decide +kernel
theorem dX9_placeOfStop_32 : decode cX9_placeOfStop 32 = .ok (.istore_n 3, 1) := by decide +kernel
theorem dX9_placeOfStop_33 : decode cX9_placeOfStop 33 = .ok (.iload_n 3, 1) := by decide +kernel
theorem dX9_placeOfStop_34 : decode cX9_placeOfStop 34 = .ok (.aload_n 0, 1) := by decide +kernel
theorem dX9_placeOfStop_35 : decode cX9_placeOfStop 35 = .ok (.getfield 19, 3) := by decide +kernel
theorem dX9_placeOfStop_38 : decode cX9_placeOfStop 38 = .ok (.getfield 106, 3) := by decide +kernel
theorem dX9_placeOfStop_41 : decode cX9_placeOfStop 41 = .ok (.if_icmp .ge 7, 3) := by decide +kernel
theorem dX9_placeOfStop_44 : decode cX9_placeOfStop 44 = .ok (.iload_n 3, 1) := by decide +kernel
theorem dX9_placeOfStop_45 : decode cX9_placeOfStop 45 = .ok (.goto 5, 3) := by decide +kernel
theorem dX9_placeOfStop_48 : decode cX9_placeOfStop 48 = .ok (.bipush (-9), 2) := by decide +kernel
theorem dX9_placeOfStop_50 : decode cX9_placeOfStop 50 = .ok (.ireturn, 1) := by decide +kernel
theorem dX9_isDone_0 : decode cX9_isDone 0 = .ok (.iload_n 1, 1) := by decide +kernel
theorem dX9_isDone_1 : decode cX9_isDone 1 = .ok (.iconst 5, 1) := by decide +kernel
theorem dX9_isDone_2 : decode cX9_isDone 2 = .ok (.if_icmp .ne 34, 3) := by decide +kernel
theorem dX9_isDone_5 : decode cX9_isDone 5 = .ok (.iload_n 2, 1) := by decide +kernel
theorem dX9_isDone_6 : decode cX9_isDone 6 = .ok (.iconst 5, 1) := by decide +kernel
theorem dX9_isDone_7 : decode cX9_isDone 7 = .ok (.if_icmp .ge 27, 3) := by decide +kernel
theorem dX9_isDone_10 : decode cX9_isDone 10 = .ok (.iload_n 3, 1) := by decide +kernel
theorem dX9_isDone_11 : decode cX9_isDone 11 = .ok (.iconst 5, 1) := by decide +kernel
theorem dX9_isDone_12 : decode cX9_isDone 12 = .ok (.if_icmp .ge 22, 3) := by decide +kernel
theorem dX9_isDone_15 : decode cX9_isDone 15 = .ok (.aload_n 0, 1) := by decide +kernel
theorem dX9_isDone_16 : decode cX9_isDone 16 = .ok (.getfield 30, 3) := by decide +kernel
theorem dX9_isDone_19 : decode cX9_isDone 19 = .ok (.iconst 5, 1) := by decide +kernel
theorem dX9_isDone_20 : decode cX9_isDone 20 = .ok (.iload_n 3, 1) := by decide +kernel
theorem dX9_isDone_21 : decode cX9_isDone 21 = .ok (.imul, 1) := by decide +kernel
theorem dX9_isDone_22 : decode cX9_isDone 22 = .ok (.iload_n 2, 1) := by decide +kernel
theorem dX9_isDone_23 : decode cX9_isDone 23 = .ok (.iadd, 1) := by decide +kernel
theorem dX9_isDone_24 : decode cX9_isDone 24 = .ok (.invokevirtual 297, 3) := by decide +kernel
theorem dX9_isDone_27 : decode cX9_isDone 27 = .ok (.ifCond .eq 7, 3) := by decide +kernel
theorem dX9_isDone_30 : decode cX9_isDone 30 = .ok (.iconst 1, 1) := by decide +kernel
theorem dX9_isDone_31 : decode cX9_isDone 31 = .ok (.goto 4, 3) := by decide +kernel
theorem dX9_isDone_34 : decode cX9_isDone 34 = .ok (.iconst 0, 1) := by decide +kernel
theorem dX9_isDone_35 : decode cX9_isDone 35 = .ok (.ireturn, 1) := by decide +kernel
theorem dX9_isDone_36 : decode cX9_isDone 36 = .ok (.iload_n 1, 1) := by decide +kernel
theorem dX9_isDone_37 : decode cX9_isDone 37 = .ok (.iconst 1, 1) := by decide +kernel
theorem dX9_isDone_38 : decode cX9_isDone 38 = .ok (.if_icmp .eq 15, 3) := by decide +kernel
theorem dX9_isDone_41 : decode cX9_isDone 41 = .ok (.iload_n 1, 1) := by decide +kernel
theorem dX9_isDone_42 : decode cX9_isDone 42 = .ok (.bipush 6, 2) := by decide +kernel
theorem dX9_isDone_44 : decode cX9_isDone 44 = .ok (.if_icmp .eq 9, 3) := by decide +kernel
theorem dX9_isDone_47 : decode cX9_isDone 47 = .ok (.iload_n 1, 1) := by decide +kernel
theorem dX9_isDone_48 : decode cX9_isDone 48 = .ok (.bipush 7, 2) := by decide +kernel
theorem dX9_isDone_50 : decode cX9_isDone 50 = .ok (.if_icmp .ne 7, 3) := by decide +kernel
theorem dX9_isDone_53 : decode cX9_isDone 53 = .ok (.iconst 1, 1) := by decide +kernel
theorem dX9_isDone_54 : decode cX9_isDone 54 = .ok (.goto 4, 3) := by decide +kernel
theorem dX9_isDone_57 : decode cX9_isDone 57 = .ok (.iconst 0, 1) := by decide +kernel
theorem dX9_isDone_58 : decode cX9_isDone 58 = .ok (.istore 4, 2) := by decide +kernel
theorem dX9_isDone_60 : decode cX9_isDone 60 = .ok (.aload_n 0, 1) := by decide +kernel
theorem dX9_isDone_61 : decode cX9_isDone 61 = .ok (.getfield 30, 3) := by decide +kernel
theorem dX9_isDone_64 : decode cX9_isDone 64 = .ok (.iload 4, 2) := by decide +kernel
theorem dX9_isDone_66 : decode cX9_isDone 66 = .ok (.ifCond .eq 7, 3) := by decide +kernel
theorem dX9_isDone_69 : decode cX9_isDone 69 = .ok (.iload_n 2, 1) := by decide +kernel
theorem dX9_isDone_70 : decode cX9_isDone 70 = .ok (.goto 4, 3) := by decide +kernel
theorem dX9_isDone_73 : decode cX9_isDone 73 = .ok (.iload_n 3, 1) := by decide +kernel
theorem dX9_isDone_74 : decode cX9_isDone 74 = .ok (.invokevirtual 111, 3) := by decide +kernel
theorem dX9_isDone_77 : decode cX9_isDone 77 = .ok (.astore 5, 2) := by decide +kernel
theorem dX9_isDone_79 : decode cX9_isDone 79 = .ok (.aload 5, 2) := by decide +kernel
theorem dX9_isDone_81 : decode cX9_isDone 81 = .ok (.ifnull 12, 3) := by decide +kernel
theorem dX9_isDone_84 : decode cX9_isDone 84 = .ok (.iload 4, 2) := by decide +kernel
theorem dX9_isDone_86 : decode cX9_isDone 86 = .ok (.ifCond .ne 9, 3) := by decide +kernel
theorem dX9_isDone_89 : decode cX9_isDone 89 = .ok (.iload_n 2, 1) := by decide +kernel
theorem dX9_isDone_90 : decode cX9_isDone 90 = .ok (.ifCond .eq 5, 3) := by decide +kernel
theorem dX9_isDone_93 : decode cX9_isDone 93 = .ok (.iconst 0, 1) := by decide +kernel
theorem dX9_isDone_94 : decode cX9_isDone 94 = .ok (.ireturn, 1) := by decide +kernel
theorem dX9_isDone_95 : decode cX9_isDone 95 = .ok (.iload_n 1, 1) := by decide +kernel
theorem dX9_isDone_96 : decode cX9_isDone 96 = .ok (.tableswitch 148 1 7 #[44, 65, 72, 86, 148, 93, 108], 44) := by decide +kernel
theorem dX9_isDone_140 : decode cX9_isDone 140 = .ok (.aload_n 0, 1) := by decide +kernel
theorem dX9_isDone_141 : decode cX9_isDone 141 = .ok (.getfield 30, 3) := by decide +kernel
theorem dX9_isDone_144 : decode cX9_isDone 144 = .ok (.aload 5, 2) := by decide +kernel
theorem dX9_isDone_146 : decode cX9_isDone 146 = .ok (.iload_n 3, 1) := by decide +kernel
theorem dX9_isDone_147 : decode cX9_isDone 147 = .ok (.invokevirtual 159, 3) := by decide +kernel
theorem dX9_isDone_150 : decode cX9_isDone 150 = .ok (.bipush (-9), 2) := by decide +kernel
theorem dX9_isDone_152 : decode cX9_isDone 152 = .ok (.if_icmp .eq 7, 3) := by decide +kernel
theorem dX9_isDone_155 : decode cX9_isDone 155 = .ok (.iconst 1, 1) := by decide +kernel
theorem dX9_isDone_156 : decode cX9_isDone 156 = .ok (.goto 4, 3) := by decide +kernel
theorem dX9_isDone_159 : decode cX9_isDone 159 = .ok (.iconst 0, 1) := by decide +kernel
theorem dX9_isDone_160 : decode cX9_isDone 160 = .ok (.ireturn, 1) := by decide +kernel
theorem dX9_isDone_161 : decode cX9_isDone 161 = .ok (.aload 5, 2) := by decide +kernel
theorem dX9_isDone_163 : decode cX9_isDone 163 = .ok (.invokevirtual 163, 3) := by decide +kernel
theorem dX9_isDone_166 : decode cX9_isDone 166 = .ok (.iconst 1, 1) := by decide +kernel
theorem dX9_isDone_167 : decode cX9_isDone 167 = .ok (.ireturn, 1) := by decide +kernel
theorem dX9_isDone_168 : decode cX9_isDone 168 = .ok (.aload 5, 2) := by decide +kernel
theorem dX9_isDone_170 : decode cX9_isDone 170 = .ok (.invokevirtual 170, 3) := by decide +kernel
theorem dX9_isDone_173 : decode cX9_isDone 173 = .ok (.ifCond .le 7, 3) := by decide +kernel
theorem dX9_isDone_176 : decode cX9_isDone 176 = .ok (.iconst 1, 1) := by decide +kernel
theorem dX9_isDone_177 : decode cX9_isDone 177 = .ok (.goto 4, 3) := by decide +kernel
theorem dX9_isDone_180 : decode cX9_isDone 180 = .ok (.iconst 0, 1) := by decide +kernel
theorem dX9_isDone_181 : decode cX9_isDone 181 = .ok (.ireturn, 1) := by decide +kernel
theorem dX9_isDone_182 : decode cX9_isDone 182 = .ok (.aload 5, 2) := by decide +kernel
theorem dX9_isDone_184 : decode cX9_isDone 184 = .ok (.invokevirtual 173, 3) := by decide +kernel
theorem dX9_isDone_187 : decode cX9_isDone 187 = .ok (.iconst 1, 1) := by decide +kernel
theorem dX9_isDone_188 : decode cX9_isDone 188 = .ok (.ireturn, 1) := by decide +kernel
theorem dX9_isDone_189 : decode cX9_isDone 189 = .ok (.aload 5, 2) := by decide +kernel
theorem dX9_isDone_191 : decode cX9_isDone 191 = .ok (.getfield 126, 3) := by decide +kernel
theorem dX9_isDone_194 : decode cX9_isDone 194 = .ok (.iload_n 3, 1) := by decide +kernel
theorem dX9_isDone_195 : decode cX9_isDone 195 = .ok (.if_icmp .lt 7, 3) := by decide +kernel
theorem dX9_isDone_198 : decode cX9_isDone 198 = .ok (.iconst 1, 1) := by decide +kernel
theorem dX9_isDone_199 : decode cX9_isDone 199 = .ok (.goto 4, 3) := by decide +kernel
theorem dX9_isDone_202 : decode cX9_isDone 202 = .ok (.iconst 0, 1) := by decide +kernel
theorem dX9_isDone_203 : decode cX9_isDone 203 = .ok (.ireturn, 1) := by decide +kernel
theorem dX9_isDone_204 : decode cX9_isDone 204 = .ok (.iload_n 3, 1) := by decide +kernel
theorem dX9_isDone_205 : decode cX9_isDone 205 = .ok (.ifCond .ne 37, 3) := by decide +kernel
theorem dX9_isDone_208 : decode cX9_isDone 208 = .ok (.aload_n 0, 1) := by decide +kernel
theorem dX9_isDone_209 : decode cX9_isDone 209 = .ok (.getfield 30, 3) := by decide +kernel
theorem dX9_isDone_212 : decode cX9_isDone 212 = .ok (.aload 5, 2) := by decide +kernel
theorem dX9_isDone_214 : decode cX9_isDone 214 = .ok (.aload_n 0, 1) := by decide +kernel
theorem dX9_isDone_215 : decode cX9_isDone 215 = .ok (.getfield 19, 3) := by decide +kernel
theorem dX9_isDone_218 : decode cX9_isDone 218 = .ok (.aload_n 0, 1) := by decide +kernel
theorem dX9_isDone_219 : decode cX9_isDone 219 = .ok (.getfield 19, 3) := by decide +kernel
theorem dX9_isDone_222 : decode cX9_isDone 222 = .ok (.getfield 106, 3) := by decide +kernel
theorem dX9_isDone_225 : decode cX9_isDone 225 = .ok (.invokevirtual 188, 3) := by decide +kernel
theorem dX9_isDone_228 : decode cX9_isDone 228 = .ok (.aload_n 0, 1) := by decide +kernel
theorem dX9_isDone_229 : decode cX9_isDone 229 = .ok (.getfield 19, 3) := by decide +kernel
theorem dX9_isDone_232 : decode cX9_isDone 232 = .ok (.getfield 106, 3) := by decide +kernel
theorem dX9_isDone_235 : decode cX9_isDone 235 = .ok (.if_icmp .ne 7, 3) := by decide +kernel
theorem dX9_isDone_238 : decode cX9_isDone 238 = .ok (.iconst 1, 1) := by decide +kernel
theorem dX9_isDone_239 : decode cX9_isDone 239 = .ok (.goto 4, 3) := by decide +kernel
theorem dX9_isDone_242 : decode cX9_isDone 242 = .ok (.iconst 0, 1) := by decide +kernel
theorem dX9_isDone_243 : decode cX9_isDone 243 = .ok (.ireturn, 1) := by decide +kernel
theorem dX9_isDone_244 : decode cX9_isDone 244 = .ok (.iconst 0, 1) := by decide +kernel
theorem dX9_isDone_245 : decode cX9_isDone 245 = .ok (.ireturn, 1) := by decide +kernel
theorem dX9_blackerBehind_0 : decode cX9_blackerBehind 0 = .ok (.aload_n 0, 1) := by decide +kernel
theorem dX9_blackerBehind_1 : decode cX9_blackerBehind 1 = .ok (.getfield 30, 3) := by decide +kernel
theorem dX9_blackerBehind_4 : decode cX9_blackerBehind 4 = .ok (.aload_n 0, 1) := by decide +kernel
theorem dX9_blackerBehind_5 : decode cX9_blackerBehind 5 = .ok (.getfield 26, 3) := by decide +kernel
theorem dX9_blackerBehind_8 : decode cX9_blackerBehind 8 = .ok (.invokevirtual 215, 3) := by decide +kernel
theorem dX9_blackerBehind_11 : decode cX9_blackerBehind 11 = .ok (.iconst 0, 1) := by decide +kernel
theorem dX9_blackerBehind_12 : decode cX9_blackerBehind 12 = .ok (.istore_n 3, 1) := by decide +kernel
theorem dX9_blackerBehind_13 : decode cX9_blackerBehind 13 = .ok (.iload_n 3, 1) := by decide +kernel
theorem dX9_blackerBehind_14 : decode cX9_blackerBehind 14 = .ok (.aload_n 0, 1) := by decide +kernel
theorem dX9_blackerBehind_15 : decode cX9_blackerBehind 15 = .ok (.getfield 26, 3) := by decide +kernel
theorem dX9_blackerBehind_18 : decode cX9_blackerBehind 18 = .ok (.getfield 95, 3) := by decide +kernel
theorem dX9_blackerBehind_21 : decode cX9_blackerBehind 21 = .ok (.if_icmp .ge 45, 3) := by decide +kernel
theorem dX9_blackerBehind_24 : decode cX9_blackerBehind 24 = .ok (.iload_n 1, 1) := by decide +kernel
theorem dX9_blackerBehind_25 : decode cX9_blackerBehind 25 = .ok (.iload_n 3, 1) := by decide +kernel
theorem dX9_blackerBehind_26 : decode cX9_blackerBehind 26 = .ok (.ishr, 1) := by decide +kernel
theorem dX9_blackerBehind_27 : decode cX9_blackerBehind 27 = .ok (.iconst 1, 1) := by decide +kernel
theorem dX9_blackerBehind_28 : decode cX9_blackerBehind 28 = .ok (.iand, 1) := by decide +kernel
theorem dX9_blackerBehind_29 : decode cX9_blackerBehind 29 = .ok (.iconst 1, 1) := by decide +kernel
theorem dX9_blackerBehind_30 : decode cX9_blackerBehind 30 = .ok (.if_icmp .ne 30, 3) := by decide +kernel
theorem dX9_blackerBehind_33 : decode cX9_blackerBehind 33 = .ok (.aload_n 0, 1) := by decide +kernel
theorem dX9_blackerBehind_34 : decode cX9_blackerBehind 34 = .ok (.getfield 30, 3) := by decide +kernel
theorem dX9_blackerBehind_37 : decode cX9_blackerBehind 37 = .ok (.aload_n 0, 1) := by decide +kernel
theorem dX9_blackerBehind_38 : decode cX9_blackerBehind 38 = .ok (.getfield 30, 3) := by decide +kernel
theorem dX9_blackerBehind_41 : decode cX9_blackerBehind 41 = .ok (.iload_n 3, 1) := by decide +kernel
theorem dX9_blackerBehind_42 : decode cX9_blackerBehind 42 = .ok (.invokevirtual 111, 3) := by decide +kernel
theorem dX9_blackerBehind_45 : decode cX9_blackerBehind 45 = .ok (.aload_n 0, 1) := by decide +kernel
theorem dX9_blackerBehind_46 : decode cX9_blackerBehind 46 = .ok (.getfield 19, 3) := by decide +kernel
theorem dX9_blackerBehind_49 : decode cX9_blackerBehind 49 = .ok (.aload_n 0, 1) := by decide +kernel
theorem dX9_blackerBehind_50 : decode cX9_blackerBehind 50 = .ok (.getfield 19, 3) := by decide +kernel
theorem dX9_blackerBehind_53 : decode cX9_blackerBehind 53 = .ok (.getfield 106, 3) := by decide +kernel
theorem dX9_blackerBehind_56 : decode cX9_blackerBehind 56 = .ok (.invokevirtual 188, 3) := by decide +kernel
theorem dX9_blackerBehind_59 : decode cX9_blackerBehind 59 = .ok (.pop, 1) := by decide +kernel
theorem dX9_blackerBehind_60 : decode cX9_blackerBehind 60 = .ok (.iinc 3 1, 3) := by decide +kernel
theorem dX9_blackerBehind_63 : decode cX9_blackerBehind 63 = .ok (.goto (-50), 3) := by decide +kernel
theorem dX9_blackerBehind_66 : decode cX9_blackerBehind 66 = .ok (.aload_n 0, 1) := by decide +kernel
theorem dX9_blackerBehind_67 : decode cX9_blackerBehind 67 = .ok (.getfield 30, 3) := by decide +kernel
theorem dX9_blackerBehind_70 : decode cX9_blackerBehind 70 = .ok (.invokevirtual 288, 3) := by decide +kernel
theorem dX9_blackerBehind_73 : decode cX9_blackerBehind 73 = .ok (.invokestatic 235, 3) := by decide +kernel
theorem dX9_blackerBehind_76 : decode cX9_blackerBehind 76 = .ok (.istore_n 3, 1) := by decide +kernel
theorem dX9_blackerBehind_77 : decode cX9_blackerBehind 77 = .ok (.aload_n 0, 1) := by decide +kernel
theorem dX9_blackerBehind_78 : decode cX9_blackerBehind 78 = .ok (.getfield 30, 3) := by decide +kernel
theorem dX9_blackerBehind_81 : decode cX9_blackerBehind 81 = .ok (.aload_n 0, 1) := by decide +kernel
theorem dX9_blackerBehind_82 : decode cX9_blackerBehind 82 = .ok (.getfield 30, 3) := by decide +kernel
theorem dX9_blackerBehind_85 : decode cX9_blackerBehind 85 = .ok (.iload_n 2, 1) := by decide +kernel
theorem dX9_blackerBehind_86 : decode cX9_blackerBehind 86 = .ok (.invokevirtual 111, 3) := by decide +kernel
theorem dX9_blackerBehind_89 : decode cX9_blackerBehind 89 = .ok (.aload_n 0, 1) := by decide +kernel
theorem dX9_blackerBehind_90 : decode cX9_blackerBehind 90 = .ok (.getfield 19, 3) := by decide +kernel
theorem dX9_blackerBehind_93 : decode cX9_blackerBehind 93 = .ok (.aload_n 0, 1) := by decide +kernel
theorem dX9_blackerBehind_94 : decode cX9_blackerBehind 94 = .ok (.getfield 19, 3) := by decide +kernel
theorem dX9_blackerBehind_97 : decode cX9_blackerBehind 97 = .ok (.getfield 106, 3) := by decide +kernel
theorem dX9_blackerBehind_100 : decode cX9_blackerBehind 100 = .ok (.invokevirtual 188, 3) := by decide +kernel
theorem dX9_blackerBehind_103 : decode cX9_blackerBehind 103 = .ok (.pop, 1) := by decide +kernel
theorem dX9_blackerBehind_104 : decode cX9_blackerBehind 104 = .ok (.aload_n 0, 1) := by decide +kernel
theorem dX9_blackerBehind_105 : decode cX9_blackerBehind 105 = .ok (.getfield 30, 3) := by decide +kernel
theorem dX9_blackerBehind_108 : decode cX9_blackerBehind 108 = .ok (.invokevirtual 288, 3) := by decide +kernel
theorem dX9_blackerBehind_111 : decode cX9_blackerBehind 111 = .ok (.invokestatic 235, 3) := by decide +kernel
theorem dX9_blackerBehind_114 : decode cX9_blackerBehind 114 = .ok (.iload_n 3, 1) := by decide +kernel
theorem dX9_blackerBehind_115 : decode cX9_blackerBehind 115 = .ok (.isub, 1) := by decide +kernel
theorem dX9_blackerBehind_116 : decode cX9_blackerBehind 116 = .ok (.ireturn, 1) := by decide +kernel
theorem dX9_reckonGains_0 : decode cX9_reckonGains 0 = .ok (.aload_n 0, 1) := by decide +kernel
theorem dX9_reckonGains_1 : decode cX9_reckonGains 1 = .ok (.getfield 30, 3) := by decide +kernel
theorem dX9_reckonGains_4 : decode cX9_reckonGains 4 = .ok (.aload_n 0, 1) := by decide +kernel
theorem dX9_reckonGains_5 : decode cX9_reckonGains 5 = .ok (.getfield 26, 3) := by decide +kernel
theorem dX9_reckonGains_8 : decode cX9_reckonGains 8 = .ok (.invokevirtual 215, 3) := by decide +kernel
theorem dX9_reckonGains_11 : decode cX9_reckonGains 11 = .ok (.iload_n 3, 1) := by decide +kernel
theorem dX9_reckonGains_12 : decode cX9_reckonGains 12 = .ok (.iconst 2, 1) := by decide +kernel
theorem dX9_reckonGains_13 : decode cX9_reckonGains 13 = .ok (.iand, 1) := by decide +kernel
theorem dX9_reckonGains_14 : decode cX9_reckonGains 14 = .ok (.ifCond .eq 30, 3) := by decide +kernel
theorem dX9_reckonGains_17 : decode cX9_reckonGains 17 = .ok (.aload_n 0, 1) := by decide +kernel
theorem dX9_reckonGains_18 : decode cX9_reckonGains 18 = .ok (.getfield 30, 3) := by decide +kernel
theorem dX9_reckonGains_21 : decode cX9_reckonGains 21 = .ok (.aload_n 0, 1) := by decide +kernel
theorem dX9_reckonGains_22 : decode cX9_reckonGains 22 = .ok (.getfield 30, 3) := by decide +kernel
theorem dX9_reckonGains_25 : decode cX9_reckonGains 25 = .ok (.iload_n 1, 1) := by decide +kernel
theorem dX9_reckonGains_26 : decode cX9_reckonGains 26 = .ok (.invokevirtual 111, 3) := by decide +kernel
theorem dX9_reckonGains_29 : decode cX9_reckonGains 29 = .ok (.aload_n 0, 1) := by decide +kernel
theorem dX9_reckonGains_30 : decode cX9_reckonGains 30 = .ok (.getfield 19, 3) := by decide +kernel
theorem dX9_reckonGains_33 : decode cX9_reckonGains 33 = .ok (.aload_n 0, 1) := by decide +kernel
theorem dX9_reckonGains_34 : decode cX9_reckonGains 34 = .ok (.getfield 19, 3) := by decide +kernel
theorem dX9_reckonGains_37 : decode cX9_reckonGains 37 = .ok (.getfield 106, 3) := by decide +kernel
theorem dX9_reckonGains_40 : decode cX9_reckonGains 40 = .ok (.invokevirtual 188, 3) := by decide +kernel
theorem dX9_reckonGains_43 : decode cX9_reckonGains 43 = .ok (.pop, 1) := by decide +kernel
theorem dX9_reckonGains_44 : decode cX9_reckonGains 44 = .ok (.iload_n 3, 1) := by decide +kernel
theorem dX9_reckonGains_45 : decode cX9_reckonGains 45 = .ok (.iconst 1, 1) := by decide +kernel
theorem dX9_reckonGains_46 : decode cX9_reckonGains 46 = .ok (.iand, 1) := by decide +kernel
theorem dX9_reckonGains_47 : decode cX9_reckonGains 47 = .ok (.ifCond .eq 30, 3) := by decide +kernel
theorem dX9_reckonGains_50 : decode cX9_reckonGains 50 = .ok (.aload_n 0, 1) := by decide +kernel
theorem dX9_reckonGains_51 : decode cX9_reckonGains 51 = .ok (.getfield 30, 3) := by decide +kernel
theorem dX9_reckonGains_54 : decode cX9_reckonGains 54 = .ok (.aload_n 0, 1) := by decide +kernel
theorem dX9_reckonGains_55 : decode cX9_reckonGains 55 = .ok (.getfield 30, 3) := by decide +kernel
theorem dX9_reckonGains_58 : decode cX9_reckonGains 58 = .ok (.iload_n 2, 1) := by decide +kernel
theorem dX9_reckonGains_59 : decode cX9_reckonGains 59 = .ok (.invokevirtual 111, 3) := by decide +kernel
theorem dX9_reckonGains_62 : decode cX9_reckonGains 62 = .ok (.aload_n 0, 1) := by decide +kernel
theorem dX9_reckonGains_63 : decode cX9_reckonGains 63 = .ok (.getfield 19, 3) := by decide +kernel
theorem dX9_reckonGains_66 : decode cX9_reckonGains 66 = .ok (.aload_n 0, 1) := by decide +kernel
theorem dX9_reckonGains_67 : decode cX9_reckonGains 67 = .ok (.getfield 19, 3) := by decide +kernel
theorem dX9_reckonGains_70 : decode cX9_reckonGains 70 = .ok (.getfield 106, 3) := by decide +kernel
theorem dX9_reckonGains_73 : decode cX9_reckonGains 73 = .ok (.invokevirtual 188, 3) := by decide +kernel
theorem dX9_reckonGains_76 : decode cX9_reckonGains 76 = .ok (.pop, 1) := by decide +kernel
theorem dX9_reckonGains_77 : decode cX9_reckonGains 77 = .ok (.aload_n 0, 1) := by decide +kernel
theorem dX9_reckonGains_78 : decode cX9_reckonGains 78 = .ok (.getfield 30, 3) := by decide +kernel
theorem dX9_reckonGains_81 : decode cX9_reckonGains 81 = .ok (.invokevirtual 288, 3) := by decide +kernel
theorem dX9_reckonGains_84 : decode cX9_reckonGains 84 = .ok (.invokestatic 235, 3) := by decide +kernel
theorem dX9_reckonGains_87 : decode cX9_reckonGains 87 = .ok (.istore 4, 2) := by decide +kernel
theorem dX9_reckonGains_89 : decode cX9_reckonGains 89 = .ok (.aload_n 0, 1) := by decide +kernel
theorem dX9_reckonGains_90 : decode cX9_reckonGains 90 = .ok (.getfield 60, 3) := by decide +kernel
theorem dX9_reckonGains_93 : decode cX9_reckonGains 93 = .ok (.iload_n 3, 1) := by decide +kernel
theorem dX9_reckonGains_94 : decode cX9_reckonGains 94 = .ok (.iconst 3, 1) := by decide +kernel
theorem dX9_reckonGains_95 : decode cX9_reckonGains 95 = .ok (.iand, 1) := by decide +kernel
theorem dX9_reckonGains_96 : decode cX9_reckonGains 96 = .ok (.aload_n 0, 1) := by decide +kernel
theorem dX9_reckonGains_97 : decode cX9_reckonGains 97 = .ok (.getfield 30, 3) := by decide +kernel
theorem dX9_reckonGains_100 : decode cX9_reckonGains 100 = .ok (.iload_n 1, 1) := by decide +kernel
theorem dX9_reckonGains_101 : decode cX9_reckonGains 101 = .ok (.invokevirtual 300, 3) := by decide +kernel
theorem dX9_reckonGains_104 : decode cX9_reckonGains 104 = .ok (.iconst 2, 1) := by decide +kernel
theorem dX9_reckonGains_105 : decode cX9_reckonGains 105 = .ok (.iload 4, 2) := by decide +kernel
theorem dX9_reckonGains_107 : decode cX9_reckonGains 107 = .ok (.imul, 1) := by decide +kernel
theorem dX9_reckonGains_108 : decode cX9_reckonGains 108 = .ok (.iadd, 1) := by decide +kernel
theorem dX9_reckonGains_109 : decode cX9_reckonGains 109 = .ok (.iastore, 1) := by decide +kernel
theorem dX9_reckonGains_110 : decode cX9_reckonGains 110 = .ok (.aload_n 0, 1) := by decide +kernel
theorem dX9_reckonGains_111 : decode cX9_reckonGains 111 = .ok (.getfield 64, 3) := by decide +kernel
theorem dX9_reckonGains_114 : decode cX9_reckonGains 114 = .ok (.iload_n 3, 1) := by decide +kernel
theorem dX9_reckonGains_115 : decode cX9_reckonGains 115 = .ok (.iconst 3, 1) := by decide +kernel
theorem dX9_reckonGains_116 : decode cX9_reckonGains 116 = .ok (.iand, 1) := by decide +kernel
theorem dX9_reckonGains_117 : decode cX9_reckonGains 117 = .ok (.aload_n 0, 1) := by decide +kernel
theorem dX9_reckonGains_118 : decode cX9_reckonGains 118 = .ok (.getfield 30, 3) := by decide +kernel
theorem dX9_reckonGains_121 : decode cX9_reckonGains 121 = .ok (.iload_n 2, 1) := by decide +kernel
theorem dX9_reckonGains_122 : decode cX9_reckonGains 122 = .ok (.invokevirtual 300, 3) := by decide +kernel
theorem dX9_reckonGains_125 : decode cX9_reckonGains 125 = .ok (.iconst 2, 1) := by decide +kernel
theorem dX9_reckonGains_126 : decode cX9_reckonGains 126 = .ok (.iload 4, 2) := by decide +kernel
theorem dX9_reckonGains_128 : decode cX9_reckonGains 128 = .ok (.imul, 1) := by decide +kernel
theorem dX9_reckonGains_129 : decode cX9_reckonGains 129 = .ok (.iadd, 1) := by decide +kernel
theorem dX9_reckonGains_130 : decode cX9_reckonGains 130 = .ok (.iastore, 1) := by decide +kernel
theorem dX9_reckonGains_131 : decode cX9_reckonGains 131 = .ok (.return_, 1) := by decide +kernel
theorem dX9_isRest_0 : decode cX9_isRest 0 = .ok (.aload_n 0, 1) := by decide +kernel
theorem dX9_isRest_1 : decode cX9_isRest 1 = .ok (.getfield 60, 3) := by decide +kernel
theorem dX9_isRest_4 : decode cX9_isRest 4 = .ok (.iload_n 1, 1) := by decide +kernel
theorem dX9_isRest_5 : decode cX9_isRest 5 = .ok (.iconst 3, 1) := by decide +kernel
theorem dX9_isRest_6 : decode cX9_isRest 6 = .ok (.iand, 1) := by decide +kernel
theorem dX9_isRest_7 : decode cX9_isRest 7 = .ok (.iaload, 1) := by decide +kernel
theorem dX9_isRest_8 : decode cX9_isRest 8 = .ok (.aload_n 0, 1) := by decide +kernel
theorem dX9_isRest_9 : decode cX9_isRest 9 = .ok (.getfield 60, 3) := by decide +kernel
theorem dX9_isRest_12 : decode cX9_isRest 12 = .ok (.iload_n 1, 1) := by decide +kernel
theorem dX9_isRest_13 : decode cX9_isRest 13 = .ok (.iconst 2, 1) := by decide +kernel
theorem dX9_isRest_14 : decode cX9_isRest 14 = .ok (.ixor, 1) := by decide +kernel
theorem dX9_isRest_15 : decode cX9_isRest 15 = .ok (.iconst 3, 1) := by decide +kernel
theorem dX9_isRest_16 : decode cX9_isRest 16 = .ok (.iand, 1) := by decide +kernel
theorem dX9_isRest_17 : decode cX9_isRest 17 = .ok (.iaload, 1) := by decide +kernel
theorem dX9_isRest_18 : decode cX9_isRest 18 = .ok (.if_icmp .lt 28, 3) := by decide +kernel
theorem dX9_isRest_21 : decode cX9_isRest 21 = .ok (.aload_n 0, 1) := by decide +kernel
theorem dX9_isRest_22 : decode cX9_isRest 22 = .ok (.getfield 64, 3) := by decide +kernel
theorem dX9_isRest_25 : decode cX9_isRest 25 = .ok (.iload_n 1, 1) := by decide +kernel
theorem dX9_isRest_26 : decode cX9_isRest 26 = .ok (.iconst 3, 1) := by decide +kernel
theorem dX9_isRest_27 : decode cX9_isRest 27 = .ok (.iand, 1) := by decide +kernel
theorem dX9_isRest_28 : decode cX9_isRest 28 = .ok (.iaload, 1) := by decide +kernel
theorem dX9_isRest_29 : decode cX9_isRest 29 = .ok (.aload_n 0, 1) := by decide +kernel
theorem dX9_isRest_30 : decode cX9_isRest 30 = .ok (.getfield 64, 3) := by decide +kernel
theorem dX9_isRest_33 : decode cX9_isRest 33 = .ok (.iload_n 1, 1) := by decide +kernel
theorem dX9_isRest_34 : decode cX9_isRest 34 = .ok (.iconst 1, 1) := by decide +kernel
theorem dX9_isRest_35 : decode cX9_isRest 35 = .ok (.ixor, 1) := by decide +kernel
theorem dX9_isRest_36 : decode cX9_isRest 36 = .ok (.iconst 3, 1) := by decide +kernel
theorem dX9_isRest_37 : decode cX9_isRest 37 = .ok (.iand, 1) := by decide +kernel
theorem dX9_isRest_38 : decode cX9_isRest 38 = .ok (.iaload, 1) := by decide +kernel
theorem dX9_isRest_39 : decode cX9_isRest 39 = .ok (.if_icmp .lt 7, 3) := by decide +kernel
theorem dX9_isRest_42 : decode cX9_isRest 42 = .ok (.iconst 1, 1) := by decide +kernel
theorem dX9_isRest_43 : decode cX9_isRest 43 = .ok (.goto 4, 3) := by decide +kernel
theorem dX9_isRest_46 : decode cX9_isRest 46 = .ok (.iconst 0, 1) := by decide +kernel
theorem dX9_isRest_47 : decode cX9_isRest 47 = .ok (.ireturn, 1) := by decide +kernel
theorem dX9_casesOfEnough_0 : decode cX9_casesOfEnough 0 = .ok (.iload 4, 2) := by decide +kernel
theorem dX9_casesOfEnough_2 : decode cX9_casesOfEnough 2 = .ok (.iload 5, 2) := by decide +kernel
theorem dX9_casesOfEnough_4 : decode cX9_casesOfEnough 4 = .ok (.if_icmp .lt 13, 3) := by decide +kernel
theorem dX9_casesOfEnough_7 : decode cX9_casesOfEnough 7 = .ok (.aload_n 1, 1) := by decide +kernel
theorem dX9_casesOfEnough_8 : decode cX9_casesOfEnough 8 = .ok (.getfield 106, 3) := by decide +kernel
theorem dX9_casesOfEnough_11 : decode cX9_casesOfEnough 11 = .ok (.iload_n 2, 1) := by decide +kernel
theorem dX9_casesOfEnough_12 : decode cX9_casesOfEnough 12 = .ok (.isub, 1) := by decide +kernel
theorem dX9_casesOfEnough_13 : decode cX9_casesOfEnough 13 = .ok (.invokestatic 261, 3) := by decide +kernel
theorem dX9_casesOfEnough_16 : decode cX9_casesOfEnough 16 = .ok (.lreturn, 1) := by decide +kernel
theorem dX9_casesOfEnough_17 : decode cX9_casesOfEnough 17 = .ok (.iload_n 2, 1) := by decide +kernel
theorem dX9_casesOfEnough_18 : decode cX9_casesOfEnough 18 = .ok (.aload_n 1, 1) := by decide +kernel
theorem dX9_casesOfEnough_19 : decode cX9_casesOfEnough 19 = .ok (.getfield 106, 3) := by decide +kernel
theorem dX9_casesOfEnough_22 : decode cX9_casesOfEnough 22 = .ok (.if_icmp .lt 5, 3) := by decide +kernel
theorem dX9_casesOfEnough_25 : decode cX9_casesOfEnough 25 = .ok (.lconst 0, 1) := by decide +kernel
theorem dX9_casesOfEnough_26 : decode cX9_casesOfEnough 26 = .ok (.lreturn, 1) := by decide +kernel
theorem dX9_casesOfEnough_27 : decode cX9_casesOfEnough 27 = .ok (.lconst 0, 1) := by decide +kernel
theorem dX9_casesOfEnough_28 : decode cX9_casesOfEnough 28 = .ok (.lstore 7, 2) := by decide +kernel
theorem dX9_casesOfEnough_30 : decode cX9_casesOfEnough 30 = .ok (.iload 6, 2) := by decide +kernel
theorem dX9_casesOfEnough_32 : decode cX9_casesOfEnough 32 = .ok (.ifCond .le 27, 3) := by decide +kernel
theorem dX9_casesOfEnough_35 : decode cX9_casesOfEnough 35 = .ok (.lload 7, 2) := by decide +kernel
theorem dX9_casesOfEnough_37 : decode cX9_casesOfEnough 37 = .ok (.iload 6, 2) := by decide +kernel
theorem dX9_casesOfEnough_39 : decode cX9_casesOfEnough 39 = .ok (.i2l, 1) := by decide +kernel
theorem dX9_casesOfEnough_40 : decode cX9_casesOfEnough 40 = .ok (.aload_n 0, 1) := by decide +kernel
theorem dX9_casesOfEnough_41 : decode cX9_casesOfEnough 41 = .ok (.aload_n 1, 1) := by decide +kernel
theorem dX9_casesOfEnough_42 : decode cX9_casesOfEnough 42 = .ok (.iload_n 2, 1) := by decide +kernel
theorem dX9_casesOfEnough_43 : decode cX9_casesOfEnough 43 = .ok (.iconst 1, 1) := by decide +kernel
theorem dX9_casesOfEnough_44 : decode cX9_casesOfEnough 44 = .ok (.iadd, 1) := by decide +kernel
theorem dX9_casesOfEnough_45 : decode cX9_casesOfEnough 45 = .ok (.iload_n 3, 1) := by decide +kernel
theorem dX9_casesOfEnough_46 : decode cX9_casesOfEnough 46 = .ok (.iload 4, 2) := by decide +kernel
theorem dX9_casesOfEnough_48 : decode cX9_casesOfEnough 48 = .ok (.iload 5, 2) := by decide +kernel
theorem dX9_casesOfEnough_50 : decode cX9_casesOfEnough 50 = .ok (.iload 6, 2) := by decide +kernel
theorem dX9_casesOfEnough_52 : decode cX9_casesOfEnough 52 = .ok (.invokestatic 257, 3) := by decide +kernel
theorem dX9_casesOfEnough_55 : decode cX9_casesOfEnough 55 = .ok (.lmul, 1) := by decide +kernel
theorem dX9_casesOfEnough_56 : decode cX9_casesOfEnough 56 = .ok (.ladd, 1) := by decide +kernel
theorem dX9_casesOfEnough_57 : decode cX9_casesOfEnough 57 = .ok (.lstore 7, 2) := by decide +kernel
theorem dX9_casesOfEnough_59 : decode cX9_casesOfEnough 59 = .ok (.aload_n 1, 1) := by decide +kernel
theorem dX9_casesOfEnough_60 : decode cX9_casesOfEnough 60 = .ok (.iload_n 2, 1) := by decide +kernel
theorem dX9_casesOfEnough_61 : decode cX9_casesOfEnough 61 = .ok (.invokevirtual 303, 3) := by decide +kernel
theorem dX9_casesOfEnough_64 : decode cX9_casesOfEnough 64 = .ok (.istore 9, 2) := by decide +kernel
theorem dX9_casesOfEnough_66 : decode cX9_casesOfEnough 66 = .ok (.iload_n 3, 1) := by decide +kernel
theorem dX9_casesOfEnough_67 : decode cX9_casesOfEnough 67 = .ok (.iload 9, 2) := by decide +kernel
theorem dX9_casesOfEnough_69 : decode cX9_casesOfEnough 69 = .ok (.invokestatic 151, 3) := by decide +kernel
theorem dX9_casesOfEnough_72 : decode cX9_casesOfEnough 72 = .ok (.istore 10, 2) := by decide +kernel
theorem dX9_casesOfEnough_74 : decode cX9_casesOfEnough 74 = .ok (.iload 6, 2) := by decide +kernel
theorem dX9_casesOfEnough_76 : decode cX9_casesOfEnough 76 = .ok (.bipush 10, 2) := by decide +kernel
theorem dX9_casesOfEnough_78 : decode cX9_casesOfEnough 78 = .ok (.if_icmp .ge 56, 3) := by decide +kernel
theorem dX9_casesOfEnough_81 : decode cX9_casesOfEnough 81 = .ok (.iload 10, 2) := by decide +kernel
theorem dX9_casesOfEnough_83 : decode cX9_casesOfEnough 83 = .ok (.bipush (-9), 2) := by decide +kernel
theorem dX9_casesOfEnough_85 : decode cX9_casesOfEnough 85 = .ok (.if_icmp .eq 49, 3) := by decide +kernel
theorem dX9_casesOfEnough_88 : decode cX9_casesOfEnough 88 = .ok (.aload_n 0, 1) := by decide +kernel
theorem dX9_casesOfEnough_89 : decode cX9_casesOfEnough 89 = .ok (.iload 9, 2) := by decide +kernel
theorem dX9_casesOfEnough_91 : decode cX9_casesOfEnough 91 = .ok (.aload_n 0, 1) := by decide +kernel
theorem dX9_casesOfEnough_92 : decode cX9_casesOfEnough 92 = .ok (.getfield 126, 3) := by decide +kernel
theorem dX9_casesOfEnough_95 : decode cX9_casesOfEnough 95 = .ok (.iload 4, 2) := by decide +kernel
theorem dX9_casesOfEnough_97 : decode cX9_casesOfEnough 97 = .ok (.isub, 1) := by decide +kernel
theorem dX9_casesOfEnough_98 : decode cX9_casesOfEnough 98 = .ok (.invokevirtual 306, 3) := by decide +kernel
theorem dX9_casesOfEnough_101 : decode cX9_casesOfEnough 101 = .ok (.istore 11, 2) := by decide +kernel
theorem dX9_casesOfEnough_103 : decode cX9_casesOfEnough 103 = .ok (.lload 7, 2) := by decide +kernel
theorem dX9_casesOfEnough_105 : decode cX9_casesOfEnough 105 = .ok (.bipush 10, 2) := by decide +kernel
theorem dX9_casesOfEnough_107 : decode cX9_casesOfEnough 107 = .ok (.iload 6, 2) := by decide +kernel
theorem dX9_casesOfEnough_109 : decode cX9_casesOfEnough 109 = .ok (.isub, 1) := by decide +kernel
theorem dX9_casesOfEnough_110 : decode cX9_casesOfEnough 110 = .ok (.i2l, 1) := by decide +kernel
theorem dX9_casesOfEnough_111 : decode cX9_casesOfEnough 111 = .ok (.aload_n 0, 1) := by decide +kernel
theorem dX9_casesOfEnough_112 : decode cX9_casesOfEnough 112 = .ok (.aload_n 1, 1) := by decide +kernel
theorem dX9_casesOfEnough_113 : decode cX9_casesOfEnough 113 = .ok (.iload_n 2, 1) := by decide +kernel
theorem dX9_casesOfEnough_114 : decode cX9_casesOfEnough 114 = .ok (.iconst 1, 1) := by decide +kernel
theorem dX9_casesOfEnough_115 : decode cX9_casesOfEnough 115 = .ok (.iadd, 1) := by decide +kernel
theorem dX9_casesOfEnough_116 : decode cX9_casesOfEnough 116 = .ok (.iload 10, 2) := by decide +kernel
theorem dX9_casesOfEnough_118 : decode cX9_casesOfEnough 118 = .ok (.iload 4, 2) := by decide +kernel
theorem dX9_casesOfEnough_120 : decode cX9_casesOfEnough 120 = .ok (.iload 11, 2) := by decide +kernel
theorem dX9_casesOfEnough_122 : decode cX9_casesOfEnough 122 = .ok (.iadd, 1) := by decide +kernel
theorem dX9_casesOfEnough_123 : decode cX9_casesOfEnough 123 = .ok (.iload 5, 2) := by decide +kernel
theorem dX9_casesOfEnough_125 : decode cX9_casesOfEnough 125 = .ok (.iload 6, 2) := by decide +kernel
theorem dX9_casesOfEnough_127 : decode cX9_casesOfEnough 127 = .ok (.invokestatic 257, 3) := by decide +kernel
theorem dX9_casesOfEnough_130 : decode cX9_casesOfEnough 130 = .ok (.lmul, 1) := by decide +kernel
theorem dX9_casesOfEnough_131 : decode cX9_casesOfEnough 131 = .ok (.ladd, 1) := by decide +kernel
theorem dX9_casesOfEnough_132 : decode cX9_casesOfEnough 132 = .ok (.lstore 7, 2) := by decide +kernel
theorem dX9_casesOfEnough_134 : decode cX9_casesOfEnough 134 = .ok (.lload 7, 2) := by decide +kernel
theorem dX9_casesOfEnough_136 : decode cX9_casesOfEnough 136 = .ok (.lreturn, 1) := by decide +kernel
theorem dX9_passYear_0 : decode cX9_passYear 0 = .ok (.iload_n 1, 1) := by decide +kernel
theorem dX9_passYear_1 : decode cX9_passYear 1 = .ok (.bipush 44, 2) := by decide +kernel
theorem dX9_passYear_3 : decode cX9_passYear 3 = .ok (.if_icmp .lt 19, 3) := by decide +kernel
theorem dX9_passYear_6 : decode cX9_passYear 6 = .ok (.aload_n 0, 1) := by decide +kernel
theorem dX9_passYear_7 : decode cX9_passYear 7 = .ok (.getfield 30, 3) := by decide +kernel
theorem dX9_passYear_10 : decode cX9_passYear 10 = .ok (.bipush 6, 2) := by decide +kernel
theorem dX9_passYear_12 : decode cX9_passYear 12 = .ok (.iload_n 1, 1) := by decide +kernel
theorem dX9_passYear_13 : decode cX9_passYear 13 = .ok (.bipush 44, 2) := by decide +kernel
theorem dX9_passYear_15 : decode cX9_passYear 15 = .ok (.isub, 1) := by decide +kernel
theorem dX9_passYear_16 : decode cX9_passYear 16 = .ok (.imul, 1) := by decide +kernel
theorem dX9_passYear_17 : decode cX9_passYear 17 = .ok (.invokevirtual 176, 3) := by decide +kernel
theorem dX9_passYear_20 : decode cX9_passYear 20 = .ok (.pop, 1) := by decide +kernel
theorem dX9_passYear_21 : decode cX9_passYear 21 = .ok (.return_, 1) := by decide +kernel
theorem dX9_passYear_22 : decode cX9_passYear 22 = .ok (.aload_n 0, 1) := by decide +kernel
theorem dX9_passYear_23 : decode cX9_passYear 23 = .ok (.getfield 30, 3) := by decide +kernel
theorem dX9_passYear_26 : decode cX9_passYear 26 = .ok (.iload_n 1, 1) := by decide +kernel
theorem dX9_passYear_27 : decode cX9_passYear 27 = .ok (.bipush 32, 2) := by decide +kernel
theorem dX9_passYear_29 : decode cX9_passYear 29 = .ok (.if_icmp .ge 10, 3) := by decide +kernel
theorem dX9_passYear_32 : decode cX9_passYear 32 = .ok (.iload_n 1, 1) := by decide +kernel
theorem dX9_passYear_33 : decode cX9_passYear 33 = .ok (.bipush 8, 2) := by decide +kernel
theorem dX9_passYear_35 : decode cX9_passYear 35 = .ok (.idiv, 1) := by decide +kernel
theorem dX9_passYear_36 : decode cX9_passYear 36 = .ok (.goto 9, 3) := by decide +kernel
theorem dX9_passYear_39 : decode cX9_passYear 39 = .ok (.iload_n 1, 1) := by decide +kernel
theorem dX9_passYear_40 : decode cX9_passYear 40 = .ok (.bipush 32, 2) := by decide +kernel
theorem dX9_passYear_42 : decode cX9_passYear 42 = .ok (.isub, 1) := by decide +kernel
theorem dX9_passYear_43 : decode cX9_passYear 43 = .ok (.iconst 4, 1) := by decide +kernel
theorem dX9_passYear_44 : decode cX9_passYear 44 = .ok (.irem, 1) := by decide +kernel
theorem dX9_passYear_45 : decode cX9_passYear 45 = .ok (.invokevirtual 111, 3) := by decide +kernel
theorem dX9_passYear_48 : decode cX9_passYear 48 = .ok (.astore_n 2, 1) := by decide +kernel
theorem dX9_passYear_49 : decode cX9_passYear 49 = .ok (.aload_n 2, 1) := by decide +kernel
theorem dX9_passYear_50 : decode cX9_passYear 50 = .ok (.ifnonnull 4, 3) := by decide +kernel
theorem dX9_passYear_53 : decode cX9_passYear 53 = .ok (.return_, 1) := by decide +kernel
theorem dX9_passYear_54 : decode cX9_passYear 54 = .ok (.iload_n 1, 1) := by decide +kernel
theorem dX9_passYear_55 : decode cX9_passYear 55 = .ok (.bipush 32, 2) := by decide +kernel
theorem dX9_passYear_57 : decode cX9_passYear 57 = .ok (.if_icmp .ge 19, 3) := by decide +kernel
theorem dX9_passYear_60 : decode cX9_passYear 60 = .ok (.aload_n 0, 1) := by decide +kernel
theorem dX9_passYear_61 : decode cX9_passYear 61 = .ok (.getfield 30, 3) := by decide +kernel
theorem dX9_passYear_64 : decode cX9_passYear 64 = .ok (.aload_n 2, 1) := by decide +kernel
theorem dX9_passYear_65 : decode cX9_passYear 65 = .ok (.iload_n 1, 1) := by decide +kernel
theorem dX9_passYear_66 : decode cX9_passYear 66 = .ok (.bipush 8, 2) := by decide +kernel
theorem dX9_passYear_68 : decode cX9_passYear 68 = .ok (.irem, 1) := by decide +kernel
theorem dX9_passYear_69 : decode cX9_passYear 69 = .ok (.invokevirtual 159, 3) := by decide +kernel
theorem dX9_passYear_72 : decode cX9_passYear 72 = .ok (.pop, 1) := by decide +kernel
theorem dX9_passYear_73 : decode cX9_passYear 73 = .ok (.goto 34, 3) := by decide +kernel
theorem dX9_passYear_76 : decode cX9_passYear 76 = .ok (.iload_n 1, 1) := by decide +kernel
theorem dX9_passYear_77 : decode cX9_passYear 77 = .ok (.bipush 36, 2) := by decide +kernel
theorem dX9_passYear_79 : decode cX9_passYear 79 = .ok (.if_icmp .ge 10, 3) := by decide +kernel
theorem dX9_passYear_82 : decode cX9_passYear 82 = .ok (.aload_n 2, 1) := by decide +kernel
theorem dX9_passYear_83 : decode cX9_passYear 83 = .ok (.invokevirtual 173, 3) := by decide +kernel
theorem dX9_passYear_86 : decode cX9_passYear 86 = .ok (.goto 21, 3) := by decide +kernel
theorem dX9_passYear_89 : decode cX9_passYear 89 = .ok (.iload_n 1, 1) := by decide +kernel
theorem dX9_passYear_90 : decode cX9_passYear 90 = .ok (.bipush 40, 2) := by decide +kernel
theorem dX9_passYear_92 : decode cX9_passYear 92 = .ok (.if_icmp .ge 10, 3) := by decide +kernel
theorem dX9_passYear_95 : decode cX9_passYear 95 = .ok (.aload_n 2, 1) := by decide +kernel
theorem dX9_passYear_96 : decode cX9_passYear 96 = .ok (.invokevirtual 163, 3) := by decide +kernel
theorem dX9_passYear_99 : decode cX9_passYear 99 = .ok (.goto 8, 3) := by decide +kernel
theorem dX9_passYear_102 : decode cX9_passYear 102 = .ok (.aload_n 2, 1) := by decide +kernel
theorem dX9_passYear_103 : decode cX9_passYear 103 = .ok (.invokevirtual 170, 3) := by decide +kernel
theorem dX9_passYear_106 : decode cX9_passYear 106 = .ok (.pop, 1) := by decide +kernel
theorem dX9_passYear_107 : decode cX9_passYear 107 = .ok (.return_, 1) := by decide +kernel
theorem dX9_isWithin_0 : decode cX9_isWithin 0 = .ok (.iload_n 0, 1) := by decide +kernel
theorem dX9_isWithin_1 : decode cX9_isWithin 1 = .ok (.ifCond .lt 12, 3) := by decide +kernel
theorem dX9_isWithin_4 : decode cX9_isWithin 4 = .ok (.iload_n 0, 1) := by decide +kernel
theorem dX9_isWithin_5 : decode cX9_isWithin 5 = .ok (.iload_n 1, 1) := by decide +kernel
theorem dX9_isWithin_6 : decode cX9_isWithin 6 = .ok (.if_icmp .gt 7, 3) := by decide +kernel
theorem dX9_isWithin_9 : decode cX9_isWithin 9 = .ok (.iconst 1, 1) := by decide +kernel
theorem dX9_isWithin_10 : decode cX9_isWithin 10 = .ok (.goto 4, 3) := by decide +kernel
theorem dX9_isWithin_13 : decode cX9_isWithin 13 = .ok (.iconst 0, 1) := by decide +kernel
theorem dX9_isWithin_14 : decode cX9_isWithin 14 = .ok (.ireturn, 1) := by decide +kernel
theorem dX9_isDot_0 : decode cX9_isDot 0 = .ok (.iload_n 0, 1) := by decide +kernel
theorem dX9_isDot_1 : decode cX9_isDot 1 = .ok (.ifCond .lt 13, 3) := by decide +kernel
theorem dX9_isDot_4 : decode cX9_isDot 4 = .ok (.iload_n 0, 1) := by decide +kernel
theorem dX9_isDot_5 : decode cX9_isDot 5 = .ok (.bipush 25, 2) := by decide +kernel
theorem dX9_isDot_7 : decode cX9_isDot 7 = .ok (.if_icmp .ge 7, 3) := by decide +kernel
theorem dX9_isDot_10 : decode cX9_isDot 10 = .ok (.iconst 1, 1) := by decide +kernel
theorem dX9_isDot_11 : decode cX9_isDot 11 = .ok (.goto 4, 3) := by decide +kernel
theorem dX9_isDot_14 : decode cX9_isDot 14 = .ok (.iconst 0, 1) := by decide +kernel
theorem dX9_isDot_15 : decode cX9_isDot 15 = .ok (.ireturn, 1) := by decide +kernel
theorem dX9_isDirection_0 : decode cX9_isDirection 0 = .ok (.iload_n 0, 1) := by decide +kernel
theorem dX9_isDirection_1 : decode cX9_isDirection 1 = .ok (.ifCond .lt 13, 3) := by decide +kernel
theorem dX9_isDirection_4 : decode cX9_isDirection 4 = .ok (.iload_n 0, 1) := by decide +kernel
theorem dX9_isDirection_5 : decode cX9_isDirection 5 = .ok (.bipush 8, 2) := by decide +kernel
theorem dX9_isDirection_7 : decode cX9_isDirection 7 = .ok (.if_icmp .ge 7, 3) := by decide +kernel
theorem dX9_isDirection_10 : decode cX9_isDirection 10 = .ok (.iconst 1, 1) := by decide +kernel
theorem dX9_isDirection_11 : decode cX9_isDirection 11 = .ok (.goto 4, 3) := by decide +kernel
theorem dX9_isDirection_14 : decode cX9_isDirection 14 = .ok (.iconst 0, 1) := by decide +kernel
theorem dX9_isDirection_15 : decode cX9_isDirection 15 = .ok (.ireturn, 1) := by decide +kernel
theorem dX9_tens_0 : decode cX9_tens 0 = .ok (.iload_n 0, 1) := by decide +kernel
theorem dX9_tens_1 : decode cX9_tens 1 = .ok (.getstatic 309, 3) := by decide +kernel
theorem dX9_tens_4 : decode cX9_tens 4 = .ok (.arraylength, 1) := by decide +kernel
theorem dX9_tens_5 : decode cX9_tens 5 = .ok (.iconst 1, 1) := by decide +kernel
theorem dX9_tens_6 : decode cX9_tens 6 = .ok (.isub, 1) := by decide +kernel
theorem dX9_tens_7 : decode cX9_tens 7 = .ok (.invokestatic 68, 3) := by decide +kernel
theorem dX9_tens_10 : decode cX9_tens 10 = .ok (.ifCond .eq 11, 3) := by decide +kernel
theorem dX9_tens_13 : decode cX9_tens 13 = .ok (.getstatic 309, 3) := by decide +kernel
theorem dX9_tens_16 : decode cX9_tens 16 = .ok (.iload_n 0, 1) := by decide +kernel
theorem dX9_tens_17 : decode cX9_tens 17 = .ok (.laload, 1) := by decide +kernel
theorem dX9_tens_18 : decode cX9_tens 18 = .ok (.goto 4, 3) := by decide +kernel
theorem dX9_tens_21 : decode cX9_tens 21 = .ok (.lconst 1, 1) := by decide +kernel
theorem dX9_tens_22 : decode cX9_tens 22 = .ok (.lreturn, 1) := by decide +kernel
theorem dX9_orders_0 : decode cX9_orders 0 = .ok (.iload_n 0, 1) := by decide +kernel
theorem dX9_orders_1 : decode cX9_orders 1 = .ok (.getstatic 313, 3) := by decide +kernel
theorem dX9_orders_4 : decode cX9_orders 4 = .ok (.arraylength, 1) := by decide +kernel
theorem dX9_orders_5 : decode cX9_orders 5 = .ok (.iconst 1, 1) := by decide +kernel
theorem dX9_orders_6 : decode cX9_orders 6 = .ok (.isub, 1) := by decide +kernel
theorem dX9_orders_7 : decode cX9_orders 7 = .ok (.invokestatic 68, 3) := by decide +kernel
theorem dX9_orders_10 : decode cX9_orders 10 = .ok (.ifCond .eq 11, 3) := by decide +kernel
theorem dX9_orders_13 : decode cX9_orders 13 = .ok (.getstatic 313, 3) := by decide +kernel
theorem dX9_orders_16 : decode cX9_orders 16 = .ok (.iload_n 0, 1) := by decide +kernel
theorem dX9_orders_17 : decode cX9_orders 17 = .ok (.iaload, 1) := by decide +kernel
theorem dX9_orders_18 : decode cX9_orders 18 = .ok (.goto 4, 3) := by decide +kernel
theorem dX9_orders_21 : decode cX9_orders 21 = .ok (.iconst 1, 1) := by decide +kernel
theorem dX9_orders_22 : decode cX9_orders 22 = .ok (.ireturn, 1) := by decide +kernel
theorem dX9_hasFigures_0 : decode cX9_hasFigures 0 = .ok (.lload_n 0, 1) := by decide +kernel
theorem dX9_hasFigures_1 : decode cX9_hasFigures 1 = .ok (.lconst 0, 1) := by decide +kernel
theorem dX9_hasFigures_2 : decode cX9_hasFigures 2 = .ok (.lcmp, 1) := by decide +kernel
theorem dX9_hasFigures_3 : decode cX9_hasFigures 3 = .ok (.ifCond .lt 16, 3) := by decide +kernel
theorem dX9_hasFigures_6 : decode cX9_hasFigures 6 = .ok (.lload_n 0, 1) := by decide +kernel
theorem dX9_hasFigures_7 : decode cX9_hasFigures 7 = .ok (.iload_n 2, 1) := by decide +kernel
theorem dX9_hasFigures_8 : decode cX9_hasFigures 8 = .ok (.invokestatic 261, 3) := by decide +kernel
theorem dX9_hasFigures_11 : decode cX9_hasFigures 11 = .ok (.lcmp, 1) := by decide +kernel
theorem dX9_hasFigures_12 : decode cX9_hasFigures 12 = .ok (.ifCond .ge 7, 3) := by decide +kernel
theorem dX9_hasFigures_15 : decode cX9_hasFigures 15 = .ok (.iconst 1, 1) := by decide +kernel
theorem dX9_hasFigures_16 : decode cX9_hasFigures 16 = .ok (.goto 4, 3) := by decide +kernel
theorem dX9_hasFigures_19 : decode cX9_hasFigures 19 = .ok (.iconst 0, 1) := by decide +kernel
theorem dX9_hasFigures_20 : decode cX9_hasFigures 20 = .ok (.ireturn, 1) := by decide +kernel
theorem dX9_figure_0 : decode cX9_figure 0 = .ok (.lload_n 0, 1) := by decide +kernel
theorem dX9_figure_1 : decode cX9_figure 1 = .ok (.iload_n 2, 1) := by decide +kernel
theorem dX9_figure_2 : decode cX9_figure 2 = .ok (.invokestatic 261, 3) := by decide +kernel
theorem dX9_figure_5 : decode cX9_figure 5 = .ok (.ldiv, 1) := by decide +kernel
theorem dX9_figure_6 : decode cX9_figure 6 = .ok (.ldc2_w 316, 3) := by decide +kernel
theorem dX9_figure_9 : decode cX9_figure 9 = .ok (.lrem, 1) := by decide +kernel
theorem dX9_figure_10 : decode cX9_figure 10 = .ok (.l2i, 1) := by decide +kernel
theorem dX9_figure_11 : decode cX9_figure 11 = .ok (.ireturn, 1) := by decide +kernel
theorem dX9_neighbour_0 : decode cX9_neighbour 0 = .ok (.iload_n 0, 1) := by decide +kernel
theorem dX9_neighbour_1 : decode cX9_neighbour 1 = .ok (.invokestatic 139, 3) := by decide +kernel
theorem dX9_neighbour_4 : decode cX9_neighbour 4 = .ok (.ifCond .eq 10, 3) := by decide +kernel
theorem dX9_neighbour_7 : decode cX9_neighbour 7 = .ok (.iload_n 1, 1) := by decide +kernel
theorem dX9_neighbour_8 : decode cX9_neighbour 8 = .ok (.invokestatic 145, 3) := by decide +kernel
theorem dX9_neighbour_11 : decode cX9_neighbour 11 = .ok (.ifCond .ne 6, 3) := by decide +kernel
theorem dX9_neighbour_14 : decode cX9_neighbour 14 = .ok (.bipush (-9), 2) := by decide +kernel
theorem dX9_neighbour_16 : decode cX9_neighbour 16 = .ok (.ireturn, 1) := by decide +kernel
theorem dX9_neighbour_17 : decode cX9_neighbour 17 = .ok (.iload_n 0, 1) := by decide +kernel
theorem dX9_neighbour_18 : decode cX9_neighbour 18 = .ok (.iconst 5, 1) := by decide +kernel
theorem dX9_neighbour_19 : decode cX9_neighbour 19 = .ok (.irem, 1) := by decide +kernel
theorem dX9_neighbour_20 : decode cX9_neighbour 20 = .ok (.getstatic 318, 3) := by decide +kernel
theorem dX9_neighbour_23 : decode cX9_neighbour 23 = .ok (.iload_n 1, 1) := by decide +kernel
theorem dX9_neighbour_24 : decode cX9_neighbour 24 = .ok (.iaload, 1) := by decide +kernel
theorem dX9_neighbour_25 : decode cX9_neighbour 25 = .ok (.iadd, 1) := by decide +kernel
theorem dX9_neighbour_26 : decode cX9_neighbour 26 = .ok (.istore_n 2, 1) := by decide +kernel
theorem dX9_neighbour_27 : decode cX9_neighbour 27 = .ok (.iload_n 0, 1) := by decide +kernel
theorem dX9_neighbour_28 : decode cX9_neighbour 28 = .ok (.iconst 5, 1) := by decide +kernel
theorem dX9_neighbour_29 : decode cX9_neighbour 29 = .ok (.idiv, 1) := by decide +kernel
theorem dX9_neighbour_30 : decode cX9_neighbour 30 = .ok (.getstatic 321, 3) := by decide +kernel
theorem dX9_neighbour_33 : decode cX9_neighbour 33 = .ok (.iload_n 1, 1) := by decide +kernel
theorem dX9_neighbour_34 : decode cX9_neighbour 34 = .ok (.iaload, 1) := by decide +kernel
theorem dX9_neighbour_35 : decode cX9_neighbour 35 = .ok (.iadd, 1) := by decide +kernel
theorem dX9_neighbour_36 : decode cX9_neighbour 36 = .ok (.istore_n 3, 1) := by decide +kernel
theorem dX9_neighbour_37 : decode cX9_neighbour 37 = .ok (.iload_n 2, 1) := by decide +kernel
theorem dX9_neighbour_38 : decode cX9_neighbour 38 = .ok (.iconst 4, 1) := by decide +kernel
theorem dX9_neighbour_39 : decode cX9_neighbour 39 = .ok (.invokestatic 68, 3) := by decide +kernel
theorem dX9_neighbour_42 : decode cX9_neighbour 42 = .ok (.ifCond .eq 19, 3) := by decide +kernel
theorem dX9_neighbour_45 : decode cX9_neighbour 45 = .ok (.iload_n 3, 1) := by decide +kernel
theorem dX9_neighbour_46 : decode cX9_neighbour 46 = .ok (.iconst 4, 1) := by decide +kernel
theorem dX9_neighbour_47 : decode cX9_neighbour 47 = .ok (.invokestatic 68, 3) := by decide +kernel
theorem dX9_neighbour_50 : decode cX9_neighbour 50 = .ok (.ifCond .eq 11, 3) := by decide +kernel
theorem dX9_neighbour_53 : decode cX9_neighbour 53 = .ok (.iconst 5, 1) := by decide +kernel
theorem dX9_neighbour_54 : decode cX9_neighbour 54 = .ok (.iload_n 3, 1) := by decide +kernel
theorem dX9_neighbour_55 : decode cX9_neighbour 55 = .ok (.imul, 1) := by decide +kernel
theorem dX9_neighbour_56 : decode cX9_neighbour 56 = .ok (.iload_n 2, 1) := by decide +kernel
theorem dX9_neighbour_57 : decode cX9_neighbour 57 = .ok (.iadd, 1) := by decide +kernel
theorem dX9_neighbour_58 : decode cX9_neighbour 58 = .ok (.goto 5, 3) := by decide +kernel
theorem dX9_neighbour_61 : decode cX9_neighbour 61 = .ok (.bipush (-9), 2) := by decide +kernel
theorem dX9_neighbour_63 : decode cX9_neighbour 63 = .ok (.ireturn, 1) := by decide +kernel
theorem dX9_toldFraction_0 : decode cX9_toldFraction 0 = .ok (.lload_n 0, 1) := by decide +kernel
theorem dX9_toldFraction_1 : decode cX9_toldFraction 1 = .ok (.lload_n 2, 1) := by decide +kernel
theorem dX9_toldFraction_2 : decode cX9_toldFraction 2 = .ok (.invokestatic 324, 3) := by decide +kernel
theorem dX9_toldFraction_5 : decode cX9_toldFraction 5 = .ok (.lstore 5, 2) := by decide +kernel
theorem dX9_toldFraction_7 : decode cX9_toldFraction 7 = .ok (.lload 5, 2) := by decide +kernel
theorem dX9_toldFraction_9 : decode cX9_toldFraction 9 = .ok (.lconst 1, 1) := by decide +kernel
theorem dX9_toldFraction_10 : decode cX9_toldFraction 10 = .ok (.lcmp, 1) := by decide +kernel
theorem dX9_toldFraction_11 : decode cX9_toldFraction 11 = .ok (.ifCond .ge 5, 3) := by decide +kernel
theorem dX9_toldFraction_14 : decode cX9_toldFraction 14 = .ok (.iconst 0, 1) := by decide +kernel
theorem dX9_toldFraction_15 : decode cX9_toldFraction 15 = .ok (.ireturn, 1) := by decide +kernel
theorem dX9_toldFraction_16 : decode cX9_toldFraction 16 = .ok (.iload 4, 2) := by decide +kernel
theorem dX9_toldFraction_18 : decode cX9_toldFraction 18 = .ok (.ifCond .eq 7, 3) := by decide +kernel
theorem dX9_toldFraction_21 : decode cX9_toldFraction 21 = .ok (.lload_n 0, 1) := by decide +kernel
theorem dX9_toldFraction_22 : decode cX9_toldFraction 22 = .ok (.goto 4, 3) := by decide +kernel
theorem dX9_toldFraction_25 : decode cX9_toldFraction 25 = .ok (.lload_n 2, 1) := by decide +kernel
theorem dX9_toldFraction_26 : decode cX9_toldFraction 26 = .ok (.lload 5, 2) := by decide +kernel
theorem dX9_toldFraction_28 : decode cX9_toldFraction 28 = .ok (.ldiv, 1) := by decide +kernel
theorem dX9_toldFraction_29 : decode cX9_toldFraction 29 = .ok (.l2i, 1) := by decide +kernel
theorem dX9_toldFraction_30 : decode cX9_toldFraction 30 = .ok (.ireturn, 1) := by decide +kernel
theorem dX9_commonDivisor_0 : decode cX9_commonDivisor 0 = .ok (.lload_n 0, 1) := by decide +kernel
theorem dX9_commonDivisor_1 : decode cX9_commonDivisor 1 = .ok (.lstore 4, 2) := by decide +kernel
theorem dX9_commonDivisor_3 : decode cX9_commonDivisor 3 = .ok (.lload_n 2, 1) := by decide +kernel
theorem dX9_commonDivisor_4 : decode cX9_commonDivisor 4 = .ok (.lstore 6, 2) := by decide +kernel
theorem dX9_commonDivisor_6 : decode cX9_commonDivisor 6 = .ok (.iconst 0, 1) := by decide +kernel
theorem dX9_commonDivisor_7 : decode cX9_commonDivisor 7 = .ok (.istore 8, 2) := by decide +kernel
theorem dX9_commonDivisor_9 : decode cX9_commonDivisor 9 = .ok (.iload 8, 2) := by decide +kernel
theorem dX9_commonDivisor_11 : decode cX9_commonDivisor 11 = .ok (.bipush 100, 2) := by decide +kernel
theorem dX9_commonDivisor_13 : decode cX9_commonDivisor 13 = .ok (.if_icmp .ge 31, 3) := by decide +kernel
theorem dX9_commonDivisor_16 : decode cX9_commonDivisor 16 = .ok (.lload 6, 2) := by decide +kernel
theorem dX9_commonDivisor_18 : decode cX9_commonDivisor 18 = .ok (.lconst 0, 1) := by decide +kernel
theorem dX9_commonDivisor_19 : decode cX9_commonDivisor 19 = .ok (.lcmp, 1) := by decide +kernel
theorem dX9_commonDivisor_20 : decode cX9_commonDivisor 20 = .ok (.ifCond .eq 24, 3) := by decide +kernel
theorem dX9_commonDivisor_23 : decode cX9_commonDivisor 23 = .ok (.lload 4, 2) := by decide +kernel
theorem dX9_commonDivisor_25 : decode cX9_commonDivisor 25 = .ok (.lload 6, 2) := by decide +kernel
theorem dX9_commonDivisor_27 : decode cX9_commonDivisor 27 = .ok (.lrem, 1) := by decide +kernel
theorem dX9_commonDivisor_28 : decode cX9_commonDivisor 28 = .ok (.lstore 9, 2) := by decide +kernel
theorem dX9_commonDivisor_30 : decode cX9_commonDivisor 30 = .ok (.lload 6, 2) := by decide +kernel
theorem dX9_commonDivisor_32 : decode cX9_commonDivisor 32 = .ok (.lstore 4, 2) := by decide +kernel
theorem dX9_commonDivisor_34 : decode cX9_commonDivisor 34 = .ok (.lload 9, 2) := by decide +kernel
theorem dX9_commonDivisor_36 : decode cX9_commonDivisor 36 = .ok (.lstore 6, 2) := by decide +kernel
theorem dX9_commonDivisor_38 : decode cX9_commonDivisor 38 = .ok (.iinc 8 1, 3) := by decide +kernel
theorem dX9_commonDivisor_41 : decode cX9_commonDivisor 41 = .ok (.goto (-32), 3) := by decide +kernel
theorem dX9_commonDivisor_44 : decode cX9_commonDivisor 44 = .ok (.lload 4, 2) := by decide +kernel
theorem dX9_commonDivisor_46 : decode cX9_commonDivisor 46 = .ok (.lreturn, 1) := by decide +kernel
theorem dJ6_bitCount_0f7a4_0 : decode cJ6_bitCount_0f7a4 0 = .ok (.iload_n 0, 1) := by decide +kernel
theorem dJ6_bitCount_0f7a4_1 : decode cJ6_bitCount_0f7a4 1 = .ok (.iload_n 0, 1) := by decide +kernel
theorem dJ6_bitCount_0f7a4_2 : decode cJ6_bitCount_0f7a4 2 = .ok (.iconst 1, 1) := by decide +kernel
theorem dJ6_bitCount_0f7a4_3 : decode cJ6_bitCount_0f7a4 3 = .ok (.iushr, 1) := by decide +kernel
theorem dJ6_bitCount_0f7a4_4 : decode cJ6_bitCount_0f7a4 4 = .ok (.ldc_w 265, 3) := by decide +kernel
theorem dJ6_bitCount_0f7a4_7 : decode cJ6_bitCount_0f7a4 7 = .ok (.iand, 1) := by decide +kernel
theorem dJ6_bitCount_0f7a4_8 : decode cJ6_bitCount_0f7a4 8 = .ok (.isub, 1) := by decide +kernel
theorem dJ6_bitCount_0f7a4_9 : decode cJ6_bitCount_0f7a4 9 = .ok (.istore_n 0, 1) := by decide +kernel
theorem dJ6_bitCount_0f7a4_10 : decode cJ6_bitCount_0f7a4 10 = .ok (.iload_n 0, 1) := by decide +kernel
theorem dJ6_bitCount_0f7a4_11 : decode cJ6_bitCount_0f7a4 11 = .ok (.ldc_w 266, 3) := by decide +kernel
theorem dJ6_bitCount_0f7a4_14 : decode cJ6_bitCount_0f7a4 14 = .ok (.iand, 1) := by decide +kernel
theorem dJ6_bitCount_0f7a4_15 : decode cJ6_bitCount_0f7a4 15 = .ok (.iload_n 0, 1) := by decide +kernel
theorem dJ6_bitCount_0f7a4_16 : decode cJ6_bitCount_0f7a4 16 = .ok (.iconst 2, 1) := by decide +kernel
theorem dJ6_bitCount_0f7a4_17 : decode cJ6_bitCount_0f7a4 17 = .ok (.iushr, 1) := by decide +kernel
theorem dJ6_bitCount_0f7a4_18 : decode cJ6_bitCount_0f7a4 18 = .ok (.ldc_w 266, 3) := by decide +kernel
theorem dJ6_bitCount_0f7a4_21 : decode cJ6_bitCount_0f7a4 21 = .ok (.iand, 1) := by decide +kernel
theorem dJ6_bitCount_0f7a4_22 : decode cJ6_bitCount_0f7a4 22 = .ok (.iadd, 1) := by decide +kernel
theorem dJ6_bitCount_0f7a4_23 : decode cJ6_bitCount_0f7a4 23 = .ok (.istore_n 0, 1) := by decide +kernel
theorem dJ6_bitCount_0f7a4_24 : decode cJ6_bitCount_0f7a4 24 = .ok (.iload_n 0, 1) := by decide +kernel
theorem dJ6_bitCount_0f7a4_25 : decode cJ6_bitCount_0f7a4 25 = .ok (.iload_n 0, 1) := by decide +kernel
theorem dJ6_bitCount_0f7a4_26 : decode cJ6_bitCount_0f7a4 26 = .ok (.iconst 4, 1) := by decide +kernel
theorem dJ6_bitCount_0f7a4_27 : decode cJ6_bitCount_0f7a4 27 = .ok (.iushr, 1) := by decide +kernel
theorem dJ6_bitCount_0f7a4_28 : decode cJ6_bitCount_0f7a4 28 = .ok (.iadd, 1) := by decide +kernel
theorem dJ6_bitCount_0f7a4_29 : decode cJ6_bitCount_0f7a4 29 = .ok (.ldc_w 267, 3) := by decide +kernel
theorem dJ6_bitCount_0f7a4_32 : decode cJ6_bitCount_0f7a4 32 = .ok (.iand, 1) := by decide +kernel
theorem dJ6_bitCount_0f7a4_33 : decode cJ6_bitCount_0f7a4 33 = .ok (.istore_n 0, 1) := by decide +kernel
theorem dJ6_bitCount_0f7a4_34 : decode cJ6_bitCount_0f7a4 34 = .ok (.iload_n 0, 1) := by decide +kernel
theorem dJ6_bitCount_0f7a4_35 : decode cJ6_bitCount_0f7a4 35 = .ok (.iload_n 0, 1) := by decide +kernel
theorem dJ6_bitCount_0f7a4_36 : decode cJ6_bitCount_0f7a4 36 = .ok (.bipush 8, 2) := by decide +kernel
theorem dJ6_bitCount_0f7a4_38 : decode cJ6_bitCount_0f7a4 38 = .ok (.iushr, 1) := by decide +kernel
theorem dJ6_bitCount_0f7a4_39 : decode cJ6_bitCount_0f7a4 39 = .ok (.iadd, 1) := by decide +kernel
theorem dJ6_bitCount_0f7a4_40 : decode cJ6_bitCount_0f7a4 40 = .ok (.istore_n 0, 1) := by decide +kernel
theorem dJ6_bitCount_0f7a4_41 : decode cJ6_bitCount_0f7a4 41 = .ok (.iload_n 0, 1) := by decide +kernel
theorem dJ6_bitCount_0f7a4_42 : decode cJ6_bitCount_0f7a4 42 = .ok (.iload_n 0, 1) := by decide +kernel
theorem dJ6_bitCount_0f7a4_43 : decode cJ6_bitCount_0f7a4 43 = .ok (.bipush 16, 2) := by decide +kernel
theorem dJ6_bitCount_0f7a4_45 : decode cJ6_bitCount_0f7a4 45 = .ok (.iushr, 1) := by decide +kernel
theorem dJ6_bitCount_0f7a4_46 : decode cJ6_bitCount_0f7a4 46 = .ok (.iadd, 1) := by decide +kernel
theorem dJ6_bitCount_0f7a4_47 : decode cJ6_bitCount_0f7a4 47 = .ok (.istore_n 0, 1) := by decide +kernel
theorem dJ6_bitCount_0f7a4_48 : decode cJ6_bitCount_0f7a4 48 = .ok (.iload_n 0, 1) := by decide +kernel
theorem dJ6_bitCount_0f7a4_49 : decode cJ6_bitCount_0f7a4 49 = .ok (.bipush 63, 2) := by decide +kernel
theorem dJ6_bitCount_0f7a4_51 : decode cJ6_bitCount_0f7a4 51 = .ok (.iand, 1) := by decide +kernel
theorem dJ6_bitCount_0f7a4_52 : decode cJ6_bitCount_0f7a4 52 = .ok (.ireturn, 1) := by decide +kernel
theorem dJ9_floorMod_7cf53_0 : decode cJ9_floorMod_7cf53 0 = .ok (.iload_n 0, 1) := by decide +kernel
theorem dJ9_floorMod_7cf53_1 : decode cJ9_floorMod_7cf53 1 = .ok (.iload_n 1, 1) := by decide +kernel
theorem dJ9_floorMod_7cf53_2 : decode cJ9_floorMod_7cf53 2 = .ok (.irem, 1) := by decide +kernel
theorem dJ9_floorMod_7cf53_3 : decode cJ9_floorMod_7cf53 3 = .ok (.istore_n 2, 1) := by decide +kernel
theorem dJ9_floorMod_7cf53_4 : decode cJ9_floorMod_7cf53 4 = .ok (.iload_n 0, 1) := by decide +kernel
theorem dJ9_floorMod_7cf53_5 : decode cJ9_floorMod_7cf53 5 = .ok (.iload_n 1, 1) := by decide +kernel
theorem dJ9_floorMod_7cf53_6 : decode cJ9_floorMod_7cf53 6 = .ok (.ixor, 1) := by decide +kernel
theorem dJ9_floorMod_7cf53_7 : decode cJ9_floorMod_7cf53 7 = .ok (.ifCond .ge 11, 3) := by decide +kernel
theorem dJ9_floorMod_7cf53_10 : decode cJ9_floorMod_7cf53 10 = .ok (.iload_n 2, 1) := by decide +kernel
theorem dJ9_floorMod_7cf53_11 : decode cJ9_floorMod_7cf53 11 = .ok (.ifCond .eq 7, 3) := by decide +kernel
theorem dJ9_floorMod_7cf53_14 : decode cJ9_floorMod_7cf53 14 = .ok (.iload_n 2, 1) := by decide +kernel
theorem dJ9_floorMod_7cf53_15 : decode cJ9_floorMod_7cf53 15 = .ok (.iload_n 1, 1) := by decide +kernel
theorem dJ9_floorMod_7cf53_16 : decode cJ9_floorMod_7cf53 16 = .ok (.iadd, 1) := by decide +kernel
theorem dJ9_floorMod_7cf53_17 : decode cJ9_floorMod_7cf53 17 = .ok (.ireturn, 1) := by decide +kernel
theorem dJ9_floorMod_7cf53_18 : decode cJ9_floorMod_7cf53 18 = .ok (.iload_n 2, 1) := by decide +kernel
theorem dJ9_floorMod_7cf53_19 : decode cJ9_floorMod_7cf53 19 = .ok (.ireturn, 1) := by decide +kernel
theorem dJ9_abs_0f7a4_0 : decode cJ9_abs_0f7a4 0 = .ok (.iload_n 0, 1) := by decide +kernel
theorem dJ9_abs_0f7a4_1 : decode cJ9_abs_0f7a4 1 = .ok (.ifCond .ge 8, 3) := by decide +kernel
theorem dJ9_abs_0f7a4_4 : decode cJ9_abs_0f7a4 4 = .ok (.iload_n 0, 1) := by decide +kernel
theorem dJ9_abs_0f7a4_5 : decode cJ9_abs_0f7a4 5 = .ok (.ineg, 1) := by decide +kernel
theorem dJ9_abs_0f7a4_6 : decode cJ9_abs_0f7a4 6 = .ok (.goto 4, 3) := by decide +kernel
theorem dJ9_abs_0f7a4_9 : decode cJ9_abs_0f7a4 9 = .ok (.iload_n 0, 1) := by decide +kernel
theorem dJ9_abs_0f7a4_10 : decode cJ9_abs_0f7a4 10 = .ok (.ireturn, 1) := by decide +kernel
theorem dJ9_min_7cf53_0 : decode cJ9_min_7cf53 0 = .ok (.iload_n 0, 1) := by decide +kernel
theorem dJ9_min_7cf53_1 : decode cJ9_min_7cf53 1 = .ok (.iload_n 1, 1) := by decide +kernel
theorem dJ9_min_7cf53_2 : decode cJ9_min_7cf53 2 = .ok (.if_icmp .gt 7, 3) := by decide +kernel
theorem dJ9_min_7cf53_5 : decode cJ9_min_7cf53 5 = .ok (.iload_n 0, 1) := by decide +kernel
theorem dJ9_min_7cf53_6 : decode cJ9_min_7cf53 6 = .ok (.goto 4, 3) := by decide +kernel
theorem dJ9_min_7cf53_9 : decode cJ9_min_7cf53 9 = .ok (.iload_n 1, 1) := by decide +kernel
theorem dJ9_min_7cf53_10 : decode cJ9_min_7cf53 10 = .ok (.ireturn, 1) := by decide +kernel
theorem dJ7_fill_53178_0 : decode cJ7_fill_53178 0 = .ok (.iconst 0, 1) := by decide +kernel
theorem dJ7_fill_53178_1 : decode cJ7_fill_53178 1 = .ok (.istore_n 2, 1) := by decide +kernel
theorem dJ7_fill_53178_2 : decode cJ7_fill_53178 2 = .ok (.aload_n 0, 1) := by decide +kernel
theorem dJ7_fill_53178_3 : decode cJ7_fill_53178 3 = .ok (.arraylength, 1) := by decide +kernel
theorem dJ7_fill_53178_4 : decode cJ7_fill_53178 4 = .ok (.istore_n 3, 1) := by decide +kernel
theorem dJ7_fill_53178_5 : decode cJ7_fill_53178 5 = .ok (.iload_n 2, 1) := by decide +kernel
theorem dJ7_fill_53178_6 : decode cJ7_fill_53178 6 = .ok (.iload_n 3, 1) := by decide +kernel
theorem dJ7_fill_53178_7 : decode cJ7_fill_53178 7 = .ok (.if_icmp .ge 13, 3) := by decide +kernel
theorem dJ7_fill_53178_10 : decode cJ7_fill_53178 10 = .ok (.aload_n 0, 1) := by decide +kernel
theorem dJ7_fill_53178_11 : decode cJ7_fill_53178 11 = .ok (.iload_n 2, 1) := by decide +kernel
theorem dJ7_fill_53178_12 : decode cJ7_fill_53178 12 = .ok (.iload_n 1, 1) := by decide +kernel
theorem dJ7_fill_53178_13 : decode cJ7_fill_53178 13 = .ok (.iastore, 1) := by decide +kernel
theorem dJ7_fill_53178_14 : decode cJ7_fill_53178 14 = .ok (.iinc 2 1, 3) := by decide +kernel
theorem dJ7_fill_53178_17 : decode cJ7_fill_53178 17 = .ok (.goto (-12), 3) := by decide +kernel
theorem dJ7_fill_53178_20 : decode cJ7_fill_53178 20 = .ok (.return_, 1) := by decide +kernel
end
section
theorem dX10_init_0 : decode cX10_init 0 = .ok (.aload_n 0, 1) := by decide +kernel
theorem dX10_init_1 : decode cX10_init 1 = .ok (.invokespecial 1, 3) := by decide +kernel
theorem dX10_init_4 : decode cX10_init 4 = .ok (.aload_n 0, 1) := by decide +kernel
theorem dX10_init_5 : decode cX10_init 5 = .ok (.iconst 4, 1) := by decide +kernel
theorem dX10_init_6 : decode cX10_init 6 = .ok (.newarray .int, 2) := by decide +kernel
theorem dX10_init_8 : decode cX10_init 8 = .ok (.putfield 7, 3) := by decide +kernel
theorem dX10_init_11 : decode cX10_init 11 = .ok (.aload_n 0, 1) := by decide +kernel
theorem dX10_init_12 : decode cX10_init 12 = .ok (.iconst 4, 1) := by decide +kernel
theorem dX10_init_13 : decode cX10_init 13 = .ok (.newarray .int, 2) := by decide +kernel
theorem dX10_init_15 : decode cX10_init 15 = .ok (.putfield 13, 3) := by decide +kernel
theorem dX10_init_18 : decode cX10_init 18 = .ok (.aload_n 0, 1) := by decide +kernel
theorem dX10_init_19 : decode cX10_init 19 = .ok (.bipush 86, 2) := by decide +kernel
theorem dX10_init_21 : decode cX10_init 21 = .ok (.newarray .int, 2) := by decide +kernel
theorem dX10_init_23 : decode cX10_init 23 = .ok (.putfield 16, 3) := by decide +kernel
theorem dX10_init_26 : decode cX10_init 26 = .ok (.aload_n 0, 1) := by decide +kernel
theorem dX10_init_27 : decode cX10_init 27 = .ok (.bipush 20, 2) := by decide +kernel
theorem dX10_init_29 : decode cX10_init 29 = .ok (.newarray .int, 2) := by decide +kernel
theorem dX10_init_31 : decode cX10_init 31 = .ok (.putfield 19, 3) := by decide +kernel
theorem dX10_init_34 : decode cX10_init 34 = .ok (.aload_n 0, 1) := by decide +kernel
theorem dX10_init_35 : decode cX10_init 35 = .ok (.bipush 8, 2) := by decide +kernel
theorem dX10_init_37 : decode cX10_init 37 = .ok (.newarray .int, 2) := by decide +kernel
theorem dX10_init_39 : decode cX10_init 39 = .ok (.putfield 22, 3) := by decide +kernel
theorem dX10_init_42 : decode cX10_init 42 = .ok (.aload_n 0, 1) := by decide +kernel
theorem dX10_init_43 : decode cX10_init 43 = .ok (.bipush 48, 2) := by decide +kernel
theorem dX10_init_45 : decode cX10_init 45 = .ok (.newarray .int, 2) := by decide +kernel
theorem dX10_init_47 : decode cX10_init 47 = .ok (.putfield 25, 3) := by decide +kernel
theorem dX10_init_50 : decode cX10_init 50 = .ok (.aload_n 0, 1) := by decide +kernel
theorem dX10_init_51 : decode cX10_init 51 = .ok (.bipush 8, 2) := by decide +kernel
theorem dX10_init_53 : decode cX10_init 53 = .ok (.newarray .int, 2) := by decide +kernel
theorem dX10_init_55 : decode cX10_init 55 = .ok (.putfield 28, 3) := by decide +kernel
theorem dX10_init_58 : decode cX10_init 58 = .ok (.aload_n 0, 1) := by decide +kernel
theorem dX10_init_59 : decode cX10_init 59 = .ok (.sipush 602, 3) := by decide +kernel
theorem dX10_init_62 : decode cX10_init 62 = .ok (.newarray .int, 2) := by decide +kernel
theorem dX10_init_64 : decode cX10_init 64 = .ok (.putfield 31, 3) := by decide +kernel
theorem dX10_init_67 : decode cX10_init 67 = .ok (.aload_n 0, 1) := by decide +kernel
theorem dX10_init_68 : decode cX10_init 68 = .ok (.bipush 25, 2) := by decide +kernel
theorem dX10_init_70 : decode cX10_init 70 = .ok (.newarray .int, 2) := by decide +kernel
theorem dX10_init_72 : decode cX10_init 72 = .ok (.putfield 34, 3) := by decide +kernel
theorem dX10_init_75 : decode cX10_init 75 = .ok (.aload_n 0, 1) := by decide +kernel
theorem dX10_init_76 : decode cX10_init 76 = .ok (.bipush 6, 2) := by decide +kernel
theorem dX10_init_78 : decode cX10_init 78 = .ok (.newarray .int, 2) := by decide +kernel
theorem dX10_init_80 : decode cX10_init 80 = .ok (.putfield 37, 3) := by decide +kernel
theorem dX10_init_83 : decode cX10_init 83 = .ok (.aload_n 0, 1) := by decide +kernel
theorem dX10_init_84 : decode cX10_init 84 = .ok (.bipush 6, 2) := by decide +kernel
theorem dX10_init_86 : decode cX10_init 86 = .ok (.newarray .int, 2) := by decide +kernel
theorem dX10_init_88 : decode cX10_init 88 = .ok (.putfield 40, 3) := by decide +kernel
theorem dX10_init_91 : decode cX10_init 91 = .ok (.aload_n 0, 1) := by decide +kernel
theorem dX10_init_92 : decode cX10_init 92 = .ok (.iconst 2, 1) := by decide +kernel
theorem dX10_init_93 : decode cX10_init 93 = .ok (.newarray .boolean, 2) := by decide +kernel
theorem dX10_init_95 : decode cX10_init 95 = .ok (.putfield 43, 3) := by decide +kernel
theorem dX10_init_98 : decode cX10_init 98 = .ok (.aload_n 0, 1) := by decide +kernel
theorem dX10_init_99 : decode cX10_init 99 = .ok (.bipush 86, 2) := by decide +kernel
theorem dX10_init_101 : decode cX10_init 101 = .ok (.newarray .int, 2) := by decide +kernel
theorem dX10_init_103 : decode cX10_init 103 = .ok (.putfield 47, 3) := by decide +kernel
theorem dX10_init_106 : decode cX10_init 106 = .ok (.return_, 1) := by decide +kernel
theorem dX10_in_0 : decode cX10_in 0 = .ok (.lload_n 0, 1) := by decide +kernel
theorem dX10_in_1 : decode cX10_in 1 = .ok (.lload_n 2, 1) := by decide +kernel
theorem dX10_in_2 : decode cX10_in 2 = .ok (.lcmp, 1) := by decide +kernel
theorem dX10_in_3 : decode cX10_in 3 = .ok (.ifCond .lt 14, 3) := by decide +kernel
theorem dX10_in_6 : decode cX10_in 6 = .ok (.lload_n 0, 1) := by decide +kernel
theorem dX10_in_7 : decode cX10_in 7 = .ok (.lload 4, 2) := by decide +kernel
theorem dX10_in_9 : decode cX10_in 9 = .ok (.lcmp, 1) := by decide +kernel
theorem dX10_in_10 : decode cX10_in 10 = .ok (.ifCond .gt 7, 3) := by decide +kernel
theorem dX10_in_13 : decode cX10_in 13 = .ok (.iconst 1, 1) := by decide +kernel
theorem dX10_in_14 : decode cX10_in 14 = .ok (.goto 4, 3) := by decide +kernel
theorem dX10_in_17 : decode cX10_in 17 = .ok (.iconst 0, 1) := by decide +kernel
theorem dX10_in_18 : decode cX10_in 18 = .ok (.ireturn, 1) := by decide +kernel
theorem dX10_has_0 : decode cX10_has 0 = .ok (.iload_n 0, 1) := by decide +kernel
theorem dX10_has_1 : decode cX10_has 1 = .ok (.iload_n 1, 1) := by decide +kernel
theorem dX10_has_2 : decode cX10_has 2 = .ok (.ishr, 1) := by decide +kernel
theorem dX10_has_3 : decode cX10_has 3 = .ok (.iconst 1, 1) := by decide +kernel
theorem dX10_has_4 : decode cX10_has 4 = .ok (.iand, 1) := by decide +kernel
theorem dX10_has_5 : decode cX10_has 5 = .ok (.iconst 1, 1) := by decide +kernel
theorem dX10_has_6 : decode cX10_has 6 = .ok (.if_icmp .ne 7, 3) := by decide +kernel
theorem dX10_has_9 : decode cX10_has 9 = .ok (.iconst 1, 1) := by decide +kernel
theorem dX10_has_10 : decode cX10_has 10 = .ok (.goto 4, 3) := by decide +kernel
theorem dX10_has_13 : decode cX10_has 13 = .ok (.iconst 0, 1) := by decide +kernel
theorem dX10_has_14 : decode cX10_has 14 = .ok (.ireturn, 1) := by decide +kernel
theorem dX10_ones_0 : decode cX10_ones 0 = .ok (.iconst 0, 1) := by decide +kernel
theorem dX10_ones_1 : decode cX10_ones 1 = .ok (.istore_n 1, 1) := by decide +kernel
theorem dX10_ones_2 : decode cX10_ones 2 = .ok (.iconst 0, 1) := by decide +kernel
theorem dX10_ones_3 : decode cX10_ones 3 = .ok (.istore_n 2, 1) := by decide +kernel
theorem dX10_ones_4 : decode cX10_ones 4 = .ok (.iload_n 2, 1) := by decide +kernel
theorem dX10_ones_5 : decode cX10_ones 5 = .ok (.bipush 25, 2) := by decide +kernel
theorem dX10_ones_7 : decode cX10_ones 7 = .ok (.if_icmp .ge 17, 3) := by decide +kernel
theorem dX10_ones_10 : decode cX10_ones 10 = .ok (.iload_n 1, 1) := by decide +kernel
theorem dX10_ones_11 : decode cX10_ones 11 = .ok (.iload_n 0, 1) := by decide +kernel
theorem dX10_ones_12 : decode cX10_ones 12 = .ok (.iload_n 2, 1) := by decide +kernel
theorem dX10_ones_13 : decode cX10_ones 13 = .ok (.ishr, 1) := by decide +kernel
theorem dX10_ones_14 : decode cX10_ones 14 = .ok (.iconst 1, 1) := by decide +kernel
theorem dX10_ones_15 : decode cX10_ones 15 = .ok (.iand, 1) := by decide +kernel
theorem dX10_ones_16 : decode cX10_ones 16 = .ok (.iadd, 1) := by decide +kernel
theorem dX10_ones_17 : decode cX10_ones 17 = .ok (.istore_n 1, 1) := by decide +kernel
theorem dX10_ones_18 : decode cX10_ones 18 = .ok (.iinc 2 1, 3) := by decide +kernel
theorem dX10_ones_21 : decode cX10_ones 21 = .ok (.goto (-17), 3) := by decide +kernel
theorem dX10_ones_24 : decode cX10_ones 24 = .ok (.iload_n 1, 1) := by decide +kernel
theorem dX10_ones_25 : decode cX10_ones 25 = .ok (.ireturn, 1) := by decide +kernel
theorem dX10_write_0 : decode cX10_write 0 = .ok (.iload_n 1, 1) := by decide +kernel
theorem dX10_write_1 : decode cX10_write 1 = .ok (.i2l, 1) := by decide +kernel
theorem dX10_write_2 : decode cX10_write 2 = .ok (.lconst 0, 1) := by decide +kernel
theorem dX10_write_3 : decode cX10_write 3 = .ok (.ldc2_w 50, 3) := by decide +kernel
theorem dX10_write_6 : decode cX10_write 6 = .ok (.invokestatic 52, 3) := by decide +kernel
theorem dX10_write_9 : decode cX10_write 9 = .ok (.ifCond .ne 6, 3) := by decide +kernel
theorem dX10_write_12 : decode cX10_write 12 = .ok (.bipush (-2), 2) := by decide +kernel
theorem dX10_write_14 : decode cX10_write 14 = .ok (.ireturn, 1) := by decide +kernel
theorem dX10_write_15 : decode cX10_write 15 = .ok (.aload_n 0, 1) := by decide +kernel
theorem dX10_write_16 : decode cX10_write 16 = .ok (.getfield 56, 3) := by decide +kernel
theorem dX10_write_19 : decode cX10_write 19 = .ok (.bipush 48, 2) := by decide +kernel
theorem dX10_write_21 : decode cX10_write 21 = .ok (.if_icmp .ne 6, 3) := by decide +kernel
theorem dX10_write_24 : decode cX10_write 24 = .ok (.bipush (-4), 2) := by decide +kernel
theorem dX10_write_26 : decode cX10_write 26 = .ok (.ireturn, 1) := by decide +kernel
theorem dX10_write_27 : decode cX10_write 27 = .ok (.aload_n 0, 1) := by decide +kernel
theorem dX10_write_28 : decode cX10_write 28 = .ok (.getfield 25, 3) := by decide +kernel
theorem dX10_write_31 : decode cX10_write 31 = .ok (.aload_n 0, 1) := by decide +kernel
theorem dX10_write_32 : decode cX10_write 32 = .ok (.getfield 56, 3) := by decide +kernel
theorem dX10_write_35 : decode cX10_write 35 = .ok (.iload_n 1, 1) := by decide +kernel
theorem dX10_write_36 : decode cX10_write 36 = .ok (.iastore, 1) := by decide +kernel
theorem dX10_write_37 : decode cX10_write 37 = .ok (.aload_n 0, 1) := by decide +kernel
theorem dX10_write_38 : decode cX10_write 38 = .ok (.dup, 1) := by decide +kernel
theorem dX10_write_39 : decode cX10_write 39 = .ok (.getfield 56, 3) := by decide +kernel
theorem dX10_write_42 : decode cX10_write 42 = .ok (.iconst 1, 1) := by decide +kernel
theorem dX10_write_43 : decode cX10_write 43 = .ok (.iadd, 1) := by decide +kernel
theorem dX10_write_44 : decode cX10_write 44 = .ok (.putfield 56, 3) := by decide +kernel
theorem dX10_write_47 : decode cX10_write 47 = .ok (.aload_n 0, 1) := by decide +kernel
theorem dX10_write_48 : decode cX10_write 48 = .ok (.getfield 56, 3) := by decide +kernel
theorem dX10_write_51 : decode cX10_write 51 = .ok (.ireturn, 1) := by decide +kernel
theorem dX10_wipe_0 : decode cX10_wipe 0 = .ok (.aload_n 0, 1) := by decide +kernel
theorem dX10_wipe_1 : decode cX10_wipe 1 = .ok (.getfield 56, 3) := by decide +kernel
theorem dX10_wipe_4 : decode cX10_wipe 4 = .ok (.istore_n 1, 1) := by decide +kernel
theorem dX10_wipe_5 : decode cX10_wipe 5 = .ok (.aload_n 0, 1) := by decide +kernel
theorem dX10_wipe_6 : decode cX10_wipe 6 = .ok (.iconst 0, 1) := by decide +kernel
theorem dX10_wipe_7 : decode cX10_wipe 7 = .ok (.putfield 56, 3) := by decide +kernel
theorem dX10_wipe_10 : decode cX10_wipe 10 = .ok (.iload_n 1, 1) := by decide +kernel
theorem dX10_wipe_11 : decode cX10_wipe 11 = .ok (.ireturn, 1) := by decide +kernel
theorem dX10_figureOf_0 : decode cX10_figureOf 0 = .ok (.aload_n 0, 1) := by decide +kernel
theorem dX10_figureOf_1 : decode cX10_figureOf 1 = .ok (.getfield 60, 3) := by decide +kernel
theorem dX10_figureOf_4 : decode cX10_figureOf 4 = .ok (.bipush (-9), 2) := by decide +kernel
theorem dX10_figureOf_6 : decode cX10_figureOf 6 = .ok (.if_icmp .ne 18, 3) := by decide +kernel
theorem dX10_figureOf_9 : decode cX10_figureOf 9 = .ok (.aload_n 0, 1) := by decide +kernel
theorem dX10_figureOf_10 : decode cX10_figureOf 10 = .ok (.getfield 63, 3) := by decide +kernel
theorem dX10_figureOf_13 : decode cX10_figureOf 13 = .ok (.aload_n 0, 1) := by decide +kernel
theorem dX10_figureOf_14 : decode cX10_figureOf 14 = .ok (.getfield 56, 3) := by decide +kernel
theorem dX10_figureOf_17 : decode cX10_figureOf 17 = .ok (.if_icmp .ge 7, 3) := by decide +kernel
theorem dX10_figureOf_20 : decode cX10_figureOf 20 = .ok (.iconst 1, 1) := by decide +kernel
theorem dX10_figureOf_21 : decode cX10_figureOf 21 = .ok (.goto 4, 3) := by decide +kernel
theorem dX10_figureOf_24 : decode cX10_figureOf 24 = .ok (.iconst 0, 1) := by decide +kernel
theorem dX10_figureOf_25 : decode cX10_figureOf 25 = .ok (.istore_n 3, 1) := by decide +kernel
theorem dX10_figureOf_26 : decode cX10_figureOf 26 = .ok (.iload_n 3, 1) := by decide +kernel
theorem dX10_figureOf_27 : decode cX10_figureOf 27 = .ok (.ifCond .eq 18, 3) := by decide +kernel
theorem dX10_figureOf_30 : decode cX10_figureOf 30 = .ok (.aload_n 0, 1) := by decide +kernel
theorem dX10_figureOf_31 : decode cX10_figureOf 31 = .ok (.getfield 25, 3) := by decide +kernel
theorem dX10_figureOf_34 : decode cX10_figureOf 34 = .ok (.aload_n 0, 1) := by decide +kernel
theorem dX10_figureOf_35 : decode cX10_figureOf 35 = .ok (.getfield 63, 3) := by decide +kernel
theorem dX10_figureOf_38 : decode cX10_figureOf 38 = .ok (.iaload, 1) := by decide +kernel
theorem dX10_figureOf_39 : decode cX10_figureOf 39 = .ok (.bipush 48, 2) := by decide +kernel
theorem dX10_figureOf_41 : decode cX10_figureOf 41 = .ok (.isub, 1) := by decide +kernel
theorem dX10_figureOf_42 : decode cX10_figureOf 42 = .ok (.goto 4, 3) := by decide +kernel
theorem dX10_figureOf_45 : decode cX10_figureOf 45 = .ok (.iconst 0, 1) := by decide +kernel
theorem dX10_figureOf_46 : decode cX10_figureOf 46 = .ok (.istore 4, 2) := by decide +kernel
theorem dX10_figureOf_48 : decode cX10_figureOf 48 = .ok (.iload_n 3, 1) := by decide +kernel
theorem dX10_figureOf_49 : decode cX10_figureOf 49 = .ok (.ifCond .eq 21, 3) := by decide +kernel
theorem dX10_figureOf_52 : decode cX10_figureOf 52 = .ok (.iload 4, 2) := by decide +kernel
theorem dX10_figureOf_54 : decode cX10_figureOf 54 = .ok (.i2l, 1) := by decide +kernel
theorem dX10_figureOf_55 : decode cX10_figureOf 55 = .ok (.lconst 0, 1) := by decide +kernel
theorem dX10_figureOf_56 : decode cX10_figureOf 56 = .ok (.iload_n 1, 1) := by decide +kernel
theorem dX10_figureOf_57 : decode cX10_figureOf 57 = .ok (.i2l, 1) := by decide +kernel
theorem dX10_figureOf_58 : decode cX10_figureOf 58 = .ok (.invokestatic 52, 3) := by decide +kernel
theorem dX10_figureOf_61 : decode cX10_figureOf 61 = .ok (.ifCond .eq 9, 3) := by decide +kernel
theorem dX10_figureOf_64 : decode cX10_figureOf 64 = .ok (.iload 4, 2) := by decide +kernel
theorem dX10_figureOf_66 : decode cX10_figureOf 66 = .ok (.iload_n 2, 1) := by decide +kernel
theorem dX10_figureOf_67 : decode cX10_figureOf 67 = .ok (.if_icmp .ne 29, 3) := by decide +kernel
theorem dX10_figureOf_70 : decode cX10_figureOf 70 = .ok (.aload_n 0, 1) := by decide +kernel
theorem dX10_figureOf_71 : decode cX10_figureOf 71 = .ok (.aload_n 0, 1) := by decide +kernel
theorem dX10_figureOf_72 : decode cX10_figureOf 72 = .ok (.getfield 60, 3) := by decide +kernel
theorem dX10_figureOf_75 : decode cX10_figureOf 75 = .ok (.bipush (-9), 2) := by decide +kernel
theorem dX10_figureOf_77 : decode cX10_figureOf 77 = .ok (.if_icmp .ne 10, 3) := by decide +kernel
theorem dX10_figureOf_80 : decode cX10_figureOf 80 = .ok (.aload_n 0, 1) := by decide +kernel
theorem dX10_figureOf_81 : decode cX10_figureOf 81 = .ok (.getfield 63, 3) := by decide +kernel
theorem dX10_figureOf_84 : decode cX10_figureOf 84 = .ok (.goto 7, 3) := by decide +kernel
theorem dX10_figureOf_87 : decode cX10_figureOf 87 = .ok (.aload_n 0, 1) := by decide +kernel
theorem dX10_figureOf_88 : decode cX10_figureOf 88 = .ok (.getfield 60, 3) := by decide +kernel
theorem dX10_figureOf_91 : decode cX10_figureOf 91 = .ok (.putfield 60, 3) := by decide +kernel
theorem dX10_figureOf_94 : decode cX10_figureOf 94 = .ok (.iconst 0, 1) := by decide +kernel
theorem dX10_figureOf_95 : decode cX10_figureOf 95 = .ok (.ireturn, 1) := by decide +kernel
theorem dX10_figureOf_96 : decode cX10_figureOf 96 = .ok (.aload_n 0, 1) := by decide +kernel
theorem dX10_figureOf_97 : decode cX10_figureOf 97 = .ok (.dup, 1) := by decide +kernel
theorem dX10_figureOf_98 : decode cX10_figureOf 98 = .ok (.getfield 63, 3) := by decide +kernel
theorem dX10_figureOf_101 : decode cX10_figureOf 101 = .ok (.iconst 1, 1) := by decide +kernel
theorem dX10_figureOf_102 : decode cX10_figureOf 102 = .ok (.iadd, 1) := by decide +kernel
theorem dX10_figureOf_103 : decode cX10_figureOf 103 = .ok (.putfield 63, 3) := by decide +kernel
theorem dX10_figureOf_106 : decode cX10_figureOf 106 = .ok (.iload 4, 2) := by decide +kernel
theorem dX10_figureOf_108 : decode cX10_figureOf 108 = .ok (.ireturn, 1) := by decide +kernel
theorem dX10_readText_0 : decode cX10_readText 0 = .ok (.aload_n 0, 1) := by decide +kernel
theorem dX10_readText_1 : decode cX10_readText 1 = .ok (.iconst 0, 1) := by decide +kernel
theorem dX10_readText_2 : decode cX10_readText 2 = .ok (.putfield 63, 3) := by decide +kernel
theorem dX10_readText_5 : decode cX10_readText 5 = .ok (.aload_n 0, 1) := by decide +kernel
theorem dX10_readText_6 : decode cX10_readText 6 = .ok (.bipush (-9), 2) := by decide +kernel
theorem dX10_readText_8 : decode cX10_readText 8 = .ok (.putfield 60, 3) := by decide +kernel
theorem dX10_readText_11 : decode cX10_readText 11 = .ok (.aload_n 0, 1) := by decide +kernel
theorem dX10_readText_12 : decode cX10_readText 12 = .ok (.iconst 0, 1) := by decide +kernel
theorem dX10_readText_13 : decode cX10_readText 13 = .ok (.putfield 66, 3) := by decide +kernel
theorem dX10_readText_16 : decode cX10_readText 16 = .ok (.aload_n 0, 1) := by decide +kernel
theorem dX10_readText_17 : decode cX10_readText 17 = .ok (.iconst 0, 1) := by decide +kernel
theorem dX10_readText_18 : decode cX10_readText 18 = .ok (.putfield 69, 3) := by decide +kernel
theorem dX10_readText_21 : decode cX10_readText 21 = .ok (.aload_n 0, 1) := by decide +kernel
theorem dX10_readText_22 : decode cX10_readText 22 = .ok (.getfield 56, 3) := by decide +kernel
theorem dX10_readText_25 : decode cX10_readText 25 = .ok (.ifCond .eq 14, 3) := by decide +kernel
theorem dX10_readText_28 : decode cX10_readText 28 = .ok (.aload_n 0, 1) := by decide +kernel
theorem dX10_readText_29 : decode cX10_readText 29 = .ok (.getfield 25, 3) := by decide +kernel
theorem dX10_readText_32 : decode cX10_readText 32 = .ok (.iconst 0, 1) := by decide +kernel
theorem dX10_readText_33 : decode cX10_readText 33 = .ok (.iaload, 1) := by decide +kernel
theorem dX10_readText_34 : decode cX10_readText 34 = .ok (.bipush 78, 2) := by decide +kernel
theorem dX10_readText_36 : decode cX10_readText 36 = .ok (.if_icmp .eq 5, 3) := by decide +kernel
theorem dX10_readText_39 : decode cX10_readText 39 = .ok (.iconst 0, 1) := by decide +kernel
theorem dX10_readText_40 : decode cX10_readText 40 = .ok (.ireturn, 1) := by decide +kernel
theorem dX10_readText_41 : decode cX10_readText 41 = .ok (.aload_n 0, 1) := by decide +kernel
theorem dX10_readText_42 : decode cX10_readText 42 = .ok (.iconst 1, 1) := by decide +kernel
theorem dX10_readText_43 : decode cX10_readText 43 = .ok (.putfield 63, 3) := by decide +kernel
theorem dX10_readText_46 : decode cX10_readText 46 = .ok (.aload_n 0, 1) := by decide +kernel
theorem dX10_readText_47 : decode cX10_readText 47 = .ok (.getfield 60, 3) := by decide +kernel
theorem dX10_readText_50 : decode cX10_readText 50 = .ok (.bipush (-9), 2) := by decide +kernel
theorem dX10_readText_52 : decode cX10_readText 52 = .ok (.if_icmp .ne 30, 3) := by decide +kernel
theorem dX10_readText_55 : decode cX10_readText 55 = .ok (.aload_n 0, 1) := by decide +kernel
theorem dX10_readText_56 : decode cX10_readText 56 = .ok (.getfield 63, 3) := by decide +kernel
theorem dX10_readText_59 : decode cX10_readText 59 = .ok (.aload_n 0, 1) := by decide +kernel
theorem dX10_readText_60 : decode cX10_readText 60 = .ok (.getfield 56, 3) := by decide +kernel
theorem dX10_readText_63 : decode cX10_readText 63 = .ok (.if_icmp .ge 19, 3) := by decide +kernel
theorem dX10_readText_66 : decode cX10_readText 66 = .ok (.aload_n 0, 1) := by decide +kernel
theorem dX10_readText_67 : decode cX10_readText 67 = .ok (.aload_n 0, 1) := by decide +kernel
theorem dX10_readText_68 : decode cX10_readText 68 = .ok (.getfield 25, 3) := by decide +kernel
theorem dX10_readText_71 : decode cX10_readText 71 = .ok (.aload_n 0, 1) := by decide +kernel
theorem dX10_readText_72 : decode cX10_readText 72 = .ok (.getfield 63, 3) := by decide +kernel
theorem dX10_readText_75 : decode cX10_readText 75 = .ok (.iaload, 1) := by decide +kernel
theorem dX10_readText_76 : decode cX10_readText 76 = .ok (.invokevirtual 72, 3) := by decide +kernel
theorem dX10_readText_79 : decode cX10_readText 79 = .ok (.goto (-33), 3) := by decide +kernel
theorem dX10_readText_82 : decode cX10_readText 82 = .ok (.aload_n 0, 1) := by decide +kernel
theorem dX10_readText_83 : decode cX10_readText 83 = .ok (.getfield 60, 3) := by decide +kernel
theorem dX10_readText_86 : decode cX10_readText 86 = .ok (.ireturn, 1) := by decide +kernel
theorem dX10_readPart_0 : decode cX10_readPart 0 = .ok (.iload_n 1, 1) := by decide +kernel
theorem dX10_readPart_1 : decode cX10_readPart 1 = .ok (.bipush 80, 2) := by decide +kernel
theorem dX10_readPart_3 : decode cX10_readPart 3 = .ok (.if_icmp .ne 145, 3) := by decide +kernel
theorem dX10_readPart_6 : decode cX10_readPart 6 = .ok (.aload_n 0, 1) := by decide +kernel
theorem dX10_readPart_7 : decode cX10_readPart 7 = .ok (.getfield 66, 3) := by decide +kernel
theorem dX10_readPart_10 : decode cX10_readPart 10 = .ok (.iconst 4, 1) := by decide +kernel
theorem dX10_readPart_11 : decode cX10_readPart 11 = .ok (.if_icmp .ge 137, 3) := by decide +kernel
theorem dX10_readPart_14 : decode cX10_readPart 14 = .ok (.aload_n 0, 1) := by decide +kernel
theorem dX10_readPart_15 : decode cX10_readPart 15 = .ok (.dup, 1) := by decide +kernel
theorem dX10_readPart_16 : decode cX10_readPart 16 = .ok (.getfield 63, 3) := by decide +kernel
theorem dX10_readPart_19 : decode cX10_readPart 19 = .ok (.iconst 1, 1) := by decide +kernel
theorem dX10_readPart_20 : decode cX10_readPart 20 = .ok (.iadd, 1) := by decide +kernel
theorem dX10_readPart_21 : decode cX10_readPart 21 = .ok (.putfield 63, 3) := by decide +kernel
theorem dX10_readPart_24 : decode cX10_readPart 24 = .ok (.iconst 5, 1) := by decide +kernel
theorem dX10_readPart_25 : decode cX10_readPart 25 = .ok (.aload_n 0, 1) := by decide +kernel
theorem dX10_readPart_26 : decode cX10_readPart 26 = .ok (.getfield 66, 3) := by decide +kernel
theorem dX10_readPart_29 : decode cX10_readPart 29 = .ok (.imul, 1) := by decide +kernel
theorem dX10_readPart_30 : decode cX10_readPart 30 = .ok (.istore_n 2, 1) := by decide +kernel
theorem dX10_readPart_31 : decode cX10_readPart 31 = .ok (.aload_n 0, 1) := by decide +kernel
theorem dX10_readPart_32 : decode cX10_readPart 32 = .ok (.iconst 4, 1) := by decide +kernel
theorem dX10_readPart_33 : decode cX10_readPart 33 = .ok (.bipush (-9), 2) := by decide +kernel
theorem dX10_readPart_35 : decode cX10_readPart 35 = .ok (.invokevirtual 76, 3) := by decide +kernel
theorem dX10_readPart_38 : decode cX10_readPart 38 = .ok (.istore_n 3, 1) := by decide +kernel
theorem dX10_readPart_39 : decode cX10_readPart 39 = .ok (.aload_n 0, 1) := by decide +kernel
theorem dX10_readPart_40 : decode cX10_readPart 40 = .ok (.getfield 19, 3) := by decide +kernel
theorem dX10_readPart_43 : decode cX10_readPart 43 = .ok (.iload_n 2, 1) := by decide +kernel
theorem dX10_readPart_44 : decode cX10_readPart 44 = .ok (.iconst 5, 1) := by decide +kernel
theorem dX10_readPart_45 : decode cX10_readPart 45 = .ok (.aload_n 0, 1) := by decide +kernel
theorem dX10_readPart_46 : decode cX10_readPart 46 = .ok (.iconst 4, 1) := by decide +kernel
theorem dX10_readPart_47 : decode cX10_readPart 47 = .ok (.bipush (-9), 2) := by decide +kernel
theorem dX10_readPart_49 : decode cX10_readPart 49 = .ok (.invokevirtual 76, 3) := by decide +kernel
theorem dX10_readPart_52 : decode cX10_readPart 52 = .ok (.imul, 1) := by decide +kernel
theorem dX10_readPart_53 : decode cX10_readPart 53 = .ok (.iload_n 3, 1) := by decide +kernel
theorem dX10_readPart_54 : decode cX10_readPart 54 = .ok (.iadd, 1) := by decide +kernel
theorem dX10_readPart_55 : decode cX10_readPart 55 = .ok (.iastore, 1) := by decide +kernel
theorem dX10_readPart_56 : decode cX10_readPart 56 = .ok (.aload_n 0, 1) := by decide +kernel
theorem dX10_readPart_57 : decode cX10_readPart 57 = .ok (.getfield 19, 3) := by decide +kernel
theorem dX10_readPart_60 : decode cX10_readPart 60 = .ok (.iload_n 2, 1) := by decide +kernel
theorem dX10_readPart_61 : decode cX10_readPart 61 = .ok (.iconst 1, 1) := by decide +kernel
theorem dX10_readPart_62 : decode cX10_readPart 62 = .ok (.iadd, 1) := by decide +kernel
theorem dX10_readPart_63 : decode cX10_readPart 63 = .ok (.aload_n 0, 1) := by decide +kernel
theorem dX10_readPart_64 : decode cX10_readPart 64 = .ok (.iconst 3, 1) := by decide +kernel
theorem dX10_readPart_65 : decode cX10_readPart 65 = .ok (.bipush (-9), 2) := by decide +kernel
theorem dX10_readPart_67 : decode cX10_readPart 67 = .ok (.invokevirtual 76, 3) := by decide +kernel
theorem dX10_readPart_70 : decode cX10_readPart 70 = .ok (.iastore, 1) := by decide +kernel
theorem dX10_readPart_71 : decode cX10_readPart 71 = .ok (.aload_n 0, 1) := by decide +kernel
theorem dX10_readPart_72 : decode cX10_readPart 72 = .ok (.getfield 19, 3) := by decide +kernel
theorem dX10_readPart_75 : decode cX10_readPart 75 = .ok (.iload_n 2, 1) := by decide +kernel
theorem dX10_readPart_76 : decode cX10_readPart 76 = .ok (.iconst 2, 1) := by decide +kernel
theorem dX10_readPart_77 : decode cX10_readPart 77 = .ok (.iadd, 1) := by decide +kernel
theorem dX10_readPart_78 : decode cX10_readPart 78 = .ok (.aload_n 0, 1) := by decide +kernel
theorem dX10_readPart_79 : decode cX10_readPart 79 = .ok (.bipush 6, 2) := by decide +kernel
theorem dX10_readPart_81 : decode cX10_readPart 81 = .ok (.bipush (-9), 2) := by decide +kernel
theorem dX10_readPart_83 : decode cX10_readPart 83 = .ok (.invokevirtual 76, 3) := by decide +kernel
theorem dX10_readPart_86 : decode cX10_readPart 86 = .ok (.iastore, 1) := by decide +kernel
theorem dX10_readPart_87 : decode cX10_readPart 87 = .ok (.aload_n 0, 1) := by decide +kernel
theorem dX10_readPart_88 : decode cX10_readPart 88 = .ok (.getfield 19, 3) := by decide +kernel
theorem dX10_readPart_91 : decode cX10_readPart 91 = .ok (.iload_n 2, 1) := by decide +kernel
theorem dX10_readPart_92 : decode cX10_readPart 92 = .ok (.iconst 3, 1) := by decide +kernel
theorem dX10_readPart_93 : decode cX10_readPart 93 = .ok (.iadd, 1) := by decide +kernel
theorem dX10_readPart_94 : decode cX10_readPart 94 = .ok (.aload_n 0, 1) := by decide +kernel
theorem dX10_readPart_95 : decode cX10_readPart 95 = .ok (.bipush 6, 2) := by decide +kernel
theorem dX10_readPart_97 : decode cX10_readPart 97 = .ok (.aload_n 0, 1) := by decide +kernel
theorem dX10_readPart_98 : decode cX10_readPart 98 = .ok (.getfield 19, 3) := by decide +kernel
theorem dX10_readPart_101 : decode cX10_readPart 101 = .ok (.iload_n 2, 1) := by decide +kernel
theorem dX10_readPart_102 : decode cX10_readPart 102 = .ok (.iconst 2, 1) := by decide +kernel
theorem dX10_readPart_103 : decode cX10_readPart 103 = .ok (.iadd, 1) := by decide +kernel
theorem dX10_readPart_104 : decode cX10_readPart 104 = .ok (.iaload, 1) := by decide +kernel
theorem dX10_readPart_105 : decode cX10_readPart 105 = .ok (.iconst 3, 1) := by decide +kernel
theorem dX10_readPart_106 : decode cX10_readPart 106 = .ok (.if_icmp .ne 7, 3) := by decide +kernel
theorem dX10_readPart_109 : decode cX10_readPart 109 = .ok (.iconst 3, 1) := by decide +kernel
theorem dX10_readPart_110 : decode cX10_readPart 110 = .ok (.goto 5, 3) := by decide +kernel
theorem dX10_readPart_113 : decode cX10_readPart 113 = .ok (.bipush (-9), 2) := by decide +kernel
theorem dX10_readPart_115 : decode cX10_readPart 115 = .ok (.invokevirtual 76, 3) := by decide +kernel
theorem dX10_readPart_118 : decode cX10_readPart 118 = .ok (.iastore, 1) := by decide +kernel
theorem dX10_readPart_119 : decode cX10_readPart 119 = .ok (.aload_n 0, 1) := by decide +kernel
theorem dX10_readPart_120 : decode cX10_readPart 120 = .ok (.getfield 19, 3) := by decide +kernel
theorem dX10_readPart_123 : decode cX10_readPart 123 = .ok (.iload_n 2, 1) := by decide +kernel
theorem dX10_readPart_124 : decode cX10_readPart 124 = .ok (.iconst 4, 1) := by decide +kernel
theorem dX10_readPart_125 : decode cX10_readPart 125 = .ok (.iadd, 1) := by decide +kernel
theorem dX10_readPart_126 : decode cX10_readPart 126 = .ok (.aload_n 0, 1) := by decide +kernel
theorem dX10_readPart_127 : decode cX10_readPart 127 = .ok (.bipush 9, 2) := by decide +kernel
theorem dX10_readPart_129 : decode cX10_readPart 129 = .ok (.bipush (-9), 2) := by decide +kernel
theorem dX10_readPart_131 : decode cX10_readPart 131 = .ok (.invokevirtual 76, 3) := by decide +kernel
theorem dX10_readPart_134 : decode cX10_readPart 134 = .ok (.iastore, 1) := by decide +kernel
theorem dX10_readPart_135 : decode cX10_readPart 135 = .ok (.aload_n 0, 1) := by decide +kernel
theorem dX10_readPart_136 : decode cX10_readPart 136 = .ok (.dup, 1) := by decide +kernel
theorem dX10_readPart_137 : decode cX10_readPart 137 = .ok (.getfield 66, 3) := by decide +kernel
theorem dX10_readPart_140 : decode cX10_readPart 140 = .ok (.iconst 1, 1) := by decide +kernel
theorem dX10_readPart_141 : decode cX10_readPart 141 = .ok (.iadd, 1) := by decide +kernel
theorem dX10_readPart_142 : decode cX10_readPart 142 = .ok (.putfield 66, 3) := by decide +kernel
theorem dX10_readPart_145 : decode cX10_readPart 145 = .ok (.goto 99, 3) := by decide +kernel
theorem dX10_readPart_148 : decode cX10_readPart 148 = .ok (.iload_n 1, 1) := by decide +kernel
theorem dX10_readPart_149 : decode cX10_readPart 149 = .ok (.bipush 83, 2) := by decide +kernel
theorem dX10_readPart_151 : decode cX10_readPart 151 = .ok (.if_icmp .ne 85, 3) := by decide +kernel
theorem dX10_readPart_154 : decode cX10_readPart 154 = .ok (.aload_n 0, 1) := by decide +kernel
theorem dX10_readPart_155 : decode cX10_readPart 155 = .ok (.getfield 69, 3) := by decide +kernel
theorem dX10_readPart_158 : decode cX10_readPart 158 = .ok (.iconst 4, 1) := by decide +kernel
theorem dX10_readPart_159 : decode cX10_readPart 159 = .ok (.if_icmp .ge 77, 3) := by decide +kernel
theorem dX10_readPart_162 : decode cX10_readPart 162 = .ok (.aload_n 0, 1) := by decide +kernel
theorem dX10_readPart_163 : decode cX10_readPart 163 = .ok (.dup, 1) := by decide +kernel
theorem dX10_readPart_164 : decode cX10_readPart 164 = .ok (.getfield 63, 3) := by decide +kernel
theorem dX10_readPart_167 : decode cX10_readPart 167 = .ok (.iconst 1, 1) := by decide +kernel
theorem dX10_readPart_168 : decode cX10_readPart 168 = .ok (.iadd, 1) := by decide +kernel
theorem dX10_readPart_169 : decode cX10_readPart 169 = .ok (.putfield 63, 3) := by decide +kernel
theorem dX10_readPart_172 : decode cX10_readPart 172 = .ok (.aload_n 0, 1) := by decide +kernel
theorem dX10_readPart_173 : decode cX10_readPart 173 = .ok (.iconst 4, 1) := by decide +kernel
theorem dX10_readPart_174 : decode cX10_readPart 174 = .ok (.bipush (-9), 2) := by decide +kernel
theorem dX10_readPart_176 : decode cX10_readPart 176 = .ok (.invokevirtual 76, 3) := by decide +kernel
theorem dX10_readPart_179 : decode cX10_readPart 179 = .ok (.istore_n 2, 1) := by decide +kernel
theorem dX10_readPart_180 : decode cX10_readPart 180 = .ok (.aload_n 0, 1) := by decide +kernel
theorem dX10_readPart_181 : decode cX10_readPart 181 = .ok (.getfield 22, 3) := by decide +kernel
theorem dX10_readPart_184 : decode cX10_readPart 184 = .ok (.iconst 2, 1) := by decide +kernel
theorem dX10_readPart_185 : decode cX10_readPart 185 = .ok (.aload_n 0, 1) := by decide +kernel
theorem dX10_readPart_186 : decode cX10_readPart 186 = .ok (.getfield 69, 3) := by decide +kernel
theorem dX10_readPart_189 : decode cX10_readPart 189 = .ok (.imul, 1) := by decide +kernel
theorem dX10_readPart_190 : decode cX10_readPart 190 = .ok (.iconst 5, 1) := by decide +kernel
theorem dX10_readPart_191 : decode cX10_readPart 191 = .ok (.aload_n 0, 1) := by decide +kernel
theorem dX10_readPart_192 : decode cX10_readPart 192 = .ok (.iconst 4, 1) := by decide +kernel
theorem dX10_readPart_193 : decode cX10_readPart 193 = .ok (.bipush (-9), 2) := by decide +kernel
theorem dX10_readPart_195 : decode cX10_readPart 195 = .ok (.invokevirtual 76, 3) := by decide +kernel
theorem dX10_readPart_198 : decode cX10_readPart 198 = .ok (.imul, 1) := by decide +kernel
theorem dX10_readPart_199 : decode cX10_readPart 199 = .ok (.iload_n 2, 1) := by decide +kernel
theorem dX10_readPart_200 : decode cX10_readPart 200 = .ok (.iadd, 1) := by decide +kernel
theorem dX10_readPart_201 : decode cX10_readPart 201 = .ok (.iastore, 1) := by decide +kernel
theorem dX10_readPart_202 : decode cX10_readPart 202 = .ok (.aload_n 0, 1) := by decide +kernel
theorem dX10_readPart_203 : decode cX10_readPart 203 = .ok (.getfield 22, 3) := by decide +kernel
theorem dX10_readPart_206 : decode cX10_readPart 206 = .ok (.iconst 2, 1) := by decide +kernel
theorem dX10_readPart_207 : decode cX10_readPart 207 = .ok (.aload_n 0, 1) := by decide +kernel
theorem dX10_readPart_208 : decode cX10_readPart 208 = .ok (.getfield 69, 3) := by decide +kernel
theorem dX10_readPart_211 : decode cX10_readPart 211 = .ok (.imul, 1) := by decide +kernel
theorem dX10_readPart_212 : decode cX10_readPart 212 = .ok (.iconst 1, 1) := by decide +kernel
theorem dX10_readPart_213 : decode cX10_readPart 213 = .ok (.iadd, 1) := by decide +kernel
theorem dX10_readPart_214 : decode cX10_readPart 214 = .ok (.aload_n 0, 1) := by decide +kernel
theorem dX10_readPart_215 : decode cX10_readPart 215 = .ok (.bipush 9, 2) := by decide +kernel
theorem dX10_readPart_217 : decode cX10_readPart 217 = .ok (.bipush (-9), 2) := by decide +kernel
theorem dX10_readPart_219 : decode cX10_readPart 219 = .ok (.invokevirtual 76, 3) := by decide +kernel
theorem dX10_readPart_222 : decode cX10_readPart 222 = .ok (.iastore, 1) := by decide +kernel
theorem dX10_readPart_223 : decode cX10_readPart 223 = .ok (.aload_n 0, 1) := by decide +kernel
theorem dX10_readPart_224 : decode cX10_readPart 224 = .ok (.dup, 1) := by decide +kernel
theorem dX10_readPart_225 : decode cX10_readPart 225 = .ok (.getfield 69, 3) := by decide +kernel
theorem dX10_readPart_228 : decode cX10_readPart 228 = .ok (.iconst 1, 1) := by decide +kernel
theorem dX10_readPart_229 : decode cX10_readPart 229 = .ok (.iadd, 1) := by decide +kernel
theorem dX10_readPart_230 : decode cX10_readPart 230 = .ok (.putfield 69, 3) := by decide +kernel
theorem dX10_readPart_233 : decode cX10_readPart 233 = .ok (.goto 11, 3) := by decide +kernel
theorem dX10_readPart_236 : decode cX10_readPart 236 = .ok (.aload_n 0, 1) := by decide +kernel
theorem dX10_readPart_237 : decode cX10_readPart 237 = .ok (.aload_n 0, 1) := by decide +kernel
theorem dX10_readPart_238 : decode cX10_readPart 238 = .ok (.getfield 63, 3) := by decide +kernel
theorem dX10_readPart_241 : decode cX10_readPart 241 = .ok (.putfield 60, 3) := by decide +kernel
theorem dX10_readPart_244 : decode cX10_readPart 244 = .ok (.return_, 1) := by decide +kernel
theorem dX10_fault_0 : decode cX10_fault 0 = .ok (.aload_n 0, 1) := by decide +kernel
theorem dX10_fault_1 : decode cX10_fault 1 = .ok (.invokevirtual 80, 3) := by decide +kernel
theorem dX10_fault_4 : decode cX10_fault 4 = .ok (.ireturn, 1) := by decide +kernel
theorem dX10_desk_0 : decode cX10_desk 0 = .ok (.aload_n 0, 1) := by decide +kernel
theorem dX10_desk_1 : decode cX10_desk 1 = .ok (.invokevirtual 80, 3) := by decide +kernel
theorem dX10_desk_4 : decode cX10_desk 4 = .ok (.bipush (-9), 2) := by decide +kernel
theorem dX10_desk_6 : decode cX10_desk 6 = .ok (.if_icmp .eq 6, 3) := by decide +kernel
theorem dX10_desk_9 : decode cX10_desk 9 = .ok (.bipush (-3), 2) := by decide +kernel
theorem dX10_desk_11 : decode cX10_desk 11 = .ok (.ireturn, 1) := by decide +kernel
theorem dX10_desk_12 : decode cX10_desk 12 = .ok (.aload_n 0, 1) := by decide +kernel
theorem dX10_desk_13 : decode cX10_desk 13 = .ok (.aload_n 0, 1) := by decide +kernel
theorem dX10_desk_14 : decode cX10_desk 14 = .ok (.getfield 66, 3) := by decide +kernel
theorem dX10_desk_17 : decode cX10_desk 17 = .ok (.putfield 84, 3) := by decide +kernel
theorem dX10_desk_20 : decode cX10_desk 20 = .ok (.iconst 0, 1) := by decide +kernel
theorem dX10_desk_21 : decode cX10_desk 21 = .ok (.istore_n 1, 1) := by decide +kernel
theorem dX10_desk_22 : decode cX10_desk 22 = .ok (.iload_n 1, 1) := by decide +kernel
theorem dX10_desk_23 : decode cX10_desk 23 = .ok (.bipush 43, 2) := by decide +kernel
theorem dX10_desk_25 : decode cX10_desk 25 = .ok (.if_icmp .ge 16, 3) := by decide +kernel
theorem dX10_desk_28 : decode cX10_desk 28 = .ok (.aload_n 0, 1) := by decide +kernel
theorem dX10_desk_29 : decode cX10_desk 29 = .ok (.getfield 16, 3) := by decide +kernel
theorem dX10_desk_32 : decode cX10_desk 32 = .ok (.iload_n 1, 1) := by decide +kernel
theorem dX10_desk_33 : decode cX10_desk 33 = .ok (.iconst 0, 1) := by decide +kernel
theorem dX10_desk_34 : decode cX10_desk 34 = .ok (.iastore, 1) := by decide +kernel
theorem dX10_desk_35 : decode cX10_desk 35 = .ok (.iinc 1 1, 3) := by decide +kernel
theorem dX10_desk_38 : decode cX10_desk 38 = .ok (.goto (-16), 3) := by decide +kernel
theorem dX10_desk_41 : decode cX10_desk 41 = .ok (.iconst 0, 1) := by decide +kernel
theorem dX10_desk_42 : decode cX10_desk 42 = .ok (.istore_n 1, 1) := by decide +kernel
theorem dX10_desk_43 : decode cX10_desk 43 = .ok (.iload_n 1, 1) := by decide +kernel
theorem dX10_desk_44 : decode cX10_desk 44 = .ok (.aload_n 0, 1) := by decide +kernel
theorem dX10_desk_45 : decode cX10_desk 45 = .ok (.getfield 84, 3) := by decide +kernel
theorem dX10_desk_48 : decode cX10_desk 48 = .ok (.if_icmp .ge 113, 3) := by decide +kernel
theorem dX10_desk_51 : decode cX10_desk 51 = .ok (.aload_n 0, 1) := by decide +kernel
theorem dX10_desk_52 : decode cX10_desk 52 = .ok (.getfield 16, 3) := by decide +kernel
theorem dX10_desk_55 : decode cX10_desk 55 = .ok (.iload_n 1, 1) := by decide +kernel
theorem dX10_desk_56 : decode cX10_desk 56 = .ok (.aload_n 0, 1) := by decide +kernel
theorem dX10_desk_57 : decode cX10_desk 57 = .ok (.getfield 19, 3) := by decide +kernel
theorem dX10_desk_60 : decode cX10_desk 60 = .ok (.iconst 5, 1) := by decide +kernel
theorem dX10_desk_61 : decode cX10_desk 61 = .ok (.iload_n 1, 1) := by decide +kernel
theorem dX10_desk_62 : decode cX10_desk 62 = .ok (.imul, 1) := by decide +kernel
theorem dX10_desk_63 : decode cX10_desk 63 = .ok (.iaload, 1) := by decide +kernel
theorem dX10_desk_64 : decode cX10_desk 64 = .ok (.iastore, 1) := by decide +kernel
theorem dX10_desk_65 : decode cX10_desk 65 = .ok (.aload_n 0, 1) := by decide +kernel
theorem dX10_desk_66 : decode cX10_desk 66 = .ok (.getfield 7, 3) := by decide +kernel
theorem dX10_desk_69 : decode cX10_desk 69 = .ok (.iload_n 1, 1) := by decide +kernel
theorem dX10_desk_70 : decode cX10_desk 70 = .ok (.aload_n 0, 1) := by decide +kernel
theorem dX10_desk_71 : decode cX10_desk 71 = .ok (.getfield 19, 3) := by decide +kernel
theorem dX10_desk_74 : decode cX10_desk 74 = .ok (.iconst 5, 1) := by decide +kernel
theorem dX10_desk_75 : decode cX10_desk 75 = .ok (.iload_n 1, 1) := by decide +kernel
theorem dX10_desk_76 : decode cX10_desk 76 = .ok (.imul, 1) := by decide +kernel
theorem dX10_desk_77 : decode cX10_desk 77 = .ok (.iconst 1, 1) := by decide +kernel
theorem dX10_desk_78 : decode cX10_desk 78 = .ok (.iadd, 1) := by decide +kernel
theorem dX10_desk_79 : decode cX10_desk 79 = .ok (.iaload, 1) := by decide +kernel
theorem dX10_desk_80 : decode cX10_desk 80 = .ok (.iastore, 1) := by decide +kernel
theorem dX10_desk_81 : decode cX10_desk 81 = .ok (.aload_n 0, 1) := by decide +kernel
theorem dX10_desk_82 : decode cX10_desk 82 = .ok (.getfield 16, 3) := by decide +kernel
theorem dX10_desk_85 : decode cX10_desk 85 = .ok (.iconst 4, 1) := by decide +kernel
theorem dX10_desk_86 : decode cX10_desk 86 = .ok (.iload_n 1, 1) := by decide +kernel
theorem dX10_desk_87 : decode cX10_desk 87 = .ok (.iadd, 1) := by decide +kernel
theorem dX10_desk_88 : decode cX10_desk 88 = .ok (.aload_n 0, 1) := by decide +kernel
theorem dX10_desk_89 : decode cX10_desk 89 = .ok (.getfield 19, 3) := by decide +kernel
theorem dX10_desk_92 : decode cX10_desk 92 = .ok (.iconst 5, 1) := by decide +kernel
theorem dX10_desk_93 : decode cX10_desk 93 = .ok (.iload_n 1, 1) := by decide +kernel
theorem dX10_desk_94 : decode cX10_desk 94 = .ok (.imul, 1) := by decide +kernel
theorem dX10_desk_95 : decode cX10_desk 95 = .ok (.iconst 2, 1) := by decide +kernel
theorem dX10_desk_96 : decode cX10_desk 96 = .ok (.iadd, 1) := by decide +kernel
theorem dX10_desk_97 : decode cX10_desk 97 = .ok (.iaload, 1) := by decide +kernel
theorem dX10_desk_98 : decode cX10_desk 98 = .ok (.iconst 3, 1) := by decide +kernel
theorem dX10_desk_99 : decode cX10_desk 99 = .ok (.isub, 1) := by decide +kernel
theorem dX10_desk_100 : decode cX10_desk 100 = .ok (.iastore, 1) := by decide +kernel
theorem dX10_desk_101 : decode cX10_desk 101 = .ok (.aload_n 0, 1) := by decide +kernel
theorem dX10_desk_102 : decode cX10_desk 102 = .ok (.getfield 16, 3) := by decide +kernel
theorem dX10_desk_105 : decode cX10_desk 105 = .ok (.bipush 8, 2) := by decide +kernel
theorem dX10_desk_107 : decode cX10_desk 107 = .ok (.iload_n 1, 1) := by decide +kernel
theorem dX10_desk_108 : decode cX10_desk 108 = .ok (.iadd, 1) := by decide +kernel
theorem dX10_desk_109 : decode cX10_desk 109 = .ok (.aload_n 0, 1) := by decide +kernel
theorem dX10_desk_110 : decode cX10_desk 110 = .ok (.getfield 19, 3) := by decide +kernel
theorem dX10_desk_113 : decode cX10_desk 113 = .ok (.iconst 5, 1) := by decide +kernel
theorem dX10_desk_114 : decode cX10_desk 114 = .ok (.iload_n 1, 1) := by decide +kernel
theorem dX10_desk_115 : decode cX10_desk 115 = .ok (.imul, 1) := by decide +kernel
theorem dX10_desk_116 : decode cX10_desk 116 = .ok (.iconst 3, 1) := by decide +kernel
theorem dX10_desk_117 : decode cX10_desk 117 = .ok (.iadd, 1) := by decide +kernel
theorem dX10_desk_118 : decode cX10_desk 118 = .ok (.iaload, 1) := by decide +kernel
theorem dX10_desk_119 : decode cX10_desk 119 = .ok (.iconst 3, 1) := by decide +kernel
theorem dX10_desk_120 : decode cX10_desk 120 = .ok (.isub, 1) := by decide +kernel
theorem dX10_desk_121 : decode cX10_desk 121 = .ok (.iastore, 1) := by decide +kernel
theorem dX10_desk_122 : decode cX10_desk 122 = .ok (.aload_n 0, 1) := by decide +kernel
theorem dX10_desk_123 : decode cX10_desk 123 = .ok (.getfield 13, 3) := by decide +kernel
theorem dX10_desk_126 : decode cX10_desk 126 = .ok (.iload_n 1, 1) := by decide +kernel
theorem dX10_desk_127 : decode cX10_desk 127 = .ok (.iconst 5, 1) := by decide +kernel
theorem dX10_desk_128 : decode cX10_desk 128 = .ok (.aload_n 0, 1) := by decide +kernel
theorem dX10_desk_129 : decode cX10_desk 129 = .ok (.getfield 19, 3) := by decide +kernel
theorem dX10_desk_132 : decode cX10_desk 132 = .ok (.iconst 5, 1) := by decide +kernel
theorem dX10_desk_133 : decode cX10_desk 133 = .ok (.iload_n 1, 1) := by decide +kernel
theorem dX10_desk_134 : decode cX10_desk 134 = .ok (.imul, 1) := by decide +kernel
theorem dX10_desk_135 : decode cX10_desk 135 = .ok (.iconst 4, 1) := by decide +kernel
theorem dX10_desk_136 : decode cX10_desk 136 = .ok (.iadd, 1) := by decide +kernel
theorem dX10_desk_137 : decode cX10_desk 137 = .ok (.iaload, 1) := by decide +kernel
theorem dX10_desk_138 : decode cX10_desk 138 = .ok (.imul, 1) := by decide +kernel
theorem dX10_desk_139 : decode cX10_desk 139 = .ok (.iastore, 1) := by decide +kernel
theorem dX10_desk_140 : decode cX10_desk 140 = .ok (.aload_n 0, 1) := by decide +kernel
theorem dX10_desk_141 : decode cX10_desk 141 = .ok (.getfield 16, 3) := by decide +kernel
theorem dX10_desk_144 : decode cX10_desk 144 = .ok (.bipush 12, 2) := by decide +kernel
theorem dX10_desk_146 : decode cX10_desk 146 = .ok (.iload_n 1, 1) := by decide +kernel
theorem dX10_desk_147 : decode cX10_desk 147 = .ok (.iadd, 1) := by decide +kernel
theorem dX10_desk_148 : decode cX10_desk 148 = .ok (.aload_n 0, 1) := by decide +kernel
theorem dX10_desk_149 : decode cX10_desk 149 = .ok (.getfield 13, 3) := by decide +kernel
theorem dX10_desk_152 : decode cX10_desk 152 = .ok (.iload_n 1, 1) := by decide +kernel
theorem dX10_desk_153 : decode cX10_desk 153 = .ok (.iaload, 1) := by decide +kernel
theorem dX10_desk_154 : decode cX10_desk 154 = .ok (.iastore, 1) := by decide +kernel
theorem dX10_desk_155 : decode cX10_desk 155 = .ok (.iinc 1 1, 3) := by decide +kernel
theorem dX10_desk_158 : decode cX10_desk 158 = .ok (.goto (-115), 3) := by decide +kernel
theorem dX10_desk_161 : decode cX10_desk 161 = .ok (.iconst 0, 1) := by decide +kernel
theorem dX10_desk_162 : decode cX10_desk 162 = .ok (.istore_n 1, 1) := by decide +kernel
theorem dX10_desk_163 : decode cX10_desk 163 = .ok (.iload_n 1, 1) := by decide +kernel
theorem dX10_desk_164 : decode cX10_desk 164 = .ok (.aload_n 0, 1) := by decide +kernel
theorem dX10_desk_165 : decode cX10_desk 165 = .ok (.getfield 69, 3) := by decide +kernel
theorem dX10_desk_168 : decode cX10_desk 168 = .ok (.if_icmp .ge 35, 3) := by decide +kernel
theorem dX10_desk_171 : decode cX10_desk 171 = .ok (.aload_n 0, 1) := by decide +kernel
theorem dX10_desk_172 : decode cX10_desk 172 = .ok (.getfield 16, 3) := by decide +kernel
theorem dX10_desk_175 : decode cX10_desk 175 = .ok (.bipush 18, 2) := by decide +kernel
theorem dX10_desk_177 : decode cX10_desk 177 = .ok (.aload_n 0, 1) := by decide +kernel
theorem dX10_desk_178 : decode cX10_desk 178 = .ok (.getfield 22, 3) := by decide +kernel
theorem dX10_desk_181 : decode cX10_desk 181 = .ok (.iconst 2, 1) := by decide +kernel
theorem dX10_desk_182 : decode cX10_desk 182 = .ok (.iload_n 1, 1) := by decide +kernel
theorem dX10_desk_183 : decode cX10_desk 183 = .ok (.imul, 1) := by decide +kernel
theorem dX10_desk_184 : decode cX10_desk 184 = .ok (.iaload, 1) := by decide +kernel
theorem dX10_desk_185 : decode cX10_desk 185 = .ok (.iadd, 1) := by decide +kernel
theorem dX10_desk_186 : decode cX10_desk 186 = .ok (.aload_n 0, 1) := by decide +kernel
theorem dX10_desk_187 : decode cX10_desk 187 = .ok (.getfield 22, 3) := by decide +kernel
theorem dX10_desk_190 : decode cX10_desk 190 = .ok (.iconst 2, 1) := by decide +kernel
theorem dX10_desk_191 : decode cX10_desk 191 = .ok (.iload_n 1, 1) := by decide +kernel
theorem dX10_desk_192 : decode cX10_desk 192 = .ok (.imul, 1) := by decide +kernel
theorem dX10_desk_193 : decode cX10_desk 193 = .ok (.iconst 1, 1) := by decide +kernel
theorem dX10_desk_194 : decode cX10_desk 194 = .ok (.iadd, 1) := by decide +kernel
theorem dX10_desk_195 : decode cX10_desk 195 = .ok (.iaload, 1) := by decide +kernel
theorem dX10_desk_196 : decode cX10_desk 196 = .ok (.iastore, 1) := by decide +kernel
theorem dX10_desk_197 : decode cX10_desk 197 = .ok (.iinc 1 1, 3) := by decide +kernel
theorem dX10_desk_200 : decode cX10_desk 200 = .ok (.goto (-37), 3) := by decide +kernel
theorem dX10_desk_203 : decode cX10_desk 203 = .ok (.aload_n 0, 1) := by decide +kernel
theorem dX10_desk_204 : decode cX10_desk 204 = .ok (.getfield 16, 3) := by decide +kernel
theorem dX10_desk_207 : decode cX10_desk 207 = .ok (.bipush 16, 2) := by decide +kernel
theorem dX10_desk_209 : decode cX10_desk 209 = .ok (.iconst 1, 1) := by decide +kernel
theorem dX10_desk_210 : decode cX10_desk 210 = .ok (.aload_n 0, 1) := by decide +kernel
theorem dX10_desk_211 : decode cX10_desk 211 = .ok (.getfield 84, 3) := by decide +kernel
theorem dX10_desk_214 : decode cX10_desk 214 = .ok (.ishl, 1) := by decide +kernel
theorem dX10_desk_215 : decode cX10_desk 215 = .ok (.iconst 1, 1) := by decide +kernel
theorem dX10_desk_216 : decode cX10_desk 216 = .ok (.isub, 1) := by decide +kernel
theorem dX10_desk_217 : decode cX10_desk 217 = .ok (.iastore, 1) := by decide +kernel
theorem dX10_desk_218 : decode cX10_desk 218 = .ok (.aload_n 0, 1) := by decide +kernel
theorem dX10_desk_219 : decode cX10_desk 219 = .ok (.iconst 0, 1) := by decide +kernel
theorem dX10_desk_220 : decode cX10_desk 220 = .ok (.putfield 87, 3) := by decide +kernel
theorem dX10_desk_223 : decode cX10_desk 223 = .ok (.aload_n 0, 1) := by decide +kernel
theorem dX10_desk_224 : decode cX10_desk 224 = .ok (.getfield 43, 3) := by decide +kernel
theorem dX10_desk_227 : decode cX10_desk 227 = .ok (.iconst 0, 1) := by decide +kernel
theorem dX10_desk_228 : decode cX10_desk 228 = .ok (.iconst 0, 1) := by decide +kernel
theorem dX10_desk_229 : decode cX10_desk 229 = .ok (.bastore, 1) := by decide +kernel
theorem dX10_desk_230 : decode cX10_desk 230 = .ok (.aload_n 0, 1) := by decide +kernel
theorem dX10_desk_231 : decode cX10_desk 231 = .ok (.getfield 43, 3) := by decide +kernel
theorem dX10_desk_234 : decode cX10_desk 234 = .ok (.iconst 1, 1) := by decide +kernel
theorem dX10_desk_235 : decode cX10_desk 235 = .ok (.iconst 0, 1) := by decide +kernel
theorem dX10_desk_236 : decode cX10_desk 236 = .ok (.bastore, 1) := by decide +kernel
theorem dX10_desk_237 : decode cX10_desk 237 = .ok (.aload_n 0, 1) := by decide +kernel
theorem dX10_desk_238 : decode cX10_desk 238 = .ok (.getfield 84, 3) := by decide +kernel
theorem dX10_desk_241 : decode cX10_desk 241 = .ok (.ireturn, 1) := by decide +kernel
theorem dX10_tenTo_0 : decode cX10_tenTo 0 = .ok (.lconst 1, 1) := by decide +kernel
theorem dX10_tenTo_1 : decode cX10_tenTo 1 = .ok (.lstore_n 1, 1) := by decide +kernel
theorem dX10_tenTo_2 : decode cX10_tenTo 2 = .ok (.iconst 0, 1) := by decide +kernel
theorem dX10_tenTo_3 : decode cX10_tenTo 3 = .ok (.istore_n 3, 1) := by decide +kernel
theorem dX10_tenTo_4 : decode cX10_tenTo 4 = .ok (.iload_n 3, 1) := by decide +kernel
theorem dX10_tenTo_5 : decode cX10_tenTo 5 = .ok (.iload_n 0, 1) := by decide +kernel
theorem dX10_tenTo_6 : decode cX10_tenTo 6 = .ok (.if_icmp .ge 15, 3) := by decide +kernel
theorem dX10_tenTo_9 : decode cX10_tenTo 9 = .ok (.lload_n 1, 1) := by decide +kernel
theorem dX10_tenTo_10 : decode cX10_tenTo 10 = .ok (.ldc2_w 90, 3) := by decide +kernel
theorem dX10_tenTo_13 : decode cX10_tenTo 13 = .ok (.lmul, 1) := by decide +kernel
theorem dX10_tenTo_14 : decode cX10_tenTo 14 = .ok (.lstore_n 1, 1) := by decide +kernel
theorem dX10_tenTo_15 : decode cX10_tenTo 15 = .ok (.iinc 3 1, 3) := by decide +kernel
theorem dX10_tenTo_18 : decode cX10_tenTo 18 = .ok (.goto (-14), 3) := by decide +kernel
theorem dX10_tenTo_21 : decode cX10_tenTo 21 = .ok (.lload_n 1, 1) := by decide +kernel
theorem dX10_tenTo_22 : decode cX10_tenTo 22 = .ok (.lreturn, 1) := by decide +kernel
theorem dX10_word_0 : decode cX10_word 0 = .ok (.iload_n 1, 1) := by decide +kernel
theorem dX10_word_1 : decode cX10_word 1 = .ok (.i2l, 1) := by decide +kernel
theorem dX10_word_2 : decode cX10_word 2 = .ok (.lconst 0, 1) := by decide +kernel
theorem dX10_word_3 : decode cX10_word 3 = .ok (.ldc2_w 92, 3) := by decide +kernel
theorem dX10_word_6 : decode cX10_word 6 = .ok (.invokestatic 52, 3) := by decide +kernel
theorem dX10_word_9 : decode cX10_word 9 = .ok (.ifCond .eq 17, 3) := by decide +kernel
theorem dX10_word_12 : decode cX10_word 12 = .ok (.lload_n 2, 1) := by decide +kernel
theorem dX10_word_13 : decode cX10_word 13 = .ok (.lconst 0, 1) := by decide +kernel
theorem dX10_word_14 : decode cX10_word 14 = .ok (.iload_n 1, 1) := by decide +kernel
theorem dX10_word_15 : decode cX10_word 15 = .ok (.invokestatic 94, 3) := by decide +kernel
theorem dX10_word_18 : decode cX10_word 18 = .ok (.lconst 1, 1) := by decide +kernel
theorem dX10_word_19 : decode cX10_word 19 = .ok (.lsub, 1) := by decide +kernel
theorem dX10_word_20 : decode cX10_word 20 = .ok (.invokestatic 52, 3) := by decide +kernel
theorem dX10_word_23 : decode cX10_word 23 = .ok (.ifCond .ne 6, 3) := by decide +kernel
theorem dX10_word_26 : decode cX10_word 26 = .ok (.bipush (-2), 2) := by decide +kernel
theorem dX10_word_28 : decode cX10_word 28 = .ok (.ireturn, 1) := by decide +kernel
theorem dX10_word_29 : decode cX10_word 29 = .ok (.iconst 0, 1) := by decide +kernel
theorem dX10_word_30 : decode cX10_word 30 = .ok (.istore 4, 2) := by decide +kernel
theorem dX10_word_32 : decode cX10_word 32 = .ok (.iload 4, 2) := by decide +kernel
theorem dX10_word_34 : decode cX10_word 34 = .ok (.iload_n 1, 1) := by decide +kernel
theorem dX10_word_35 : decode cX10_word 35 = .ok (.if_icmp .ge 30, 3) := by decide +kernel
theorem dX10_word_38 : decode cX10_word 38 = .ok (.lload_n 2, 1) := by decide +kernel
theorem dX10_word_39 : decode cX10_word 39 = .ok (.iload 4, 2) := by decide +kernel
theorem dX10_word_41 : decode cX10_word 41 = .ok (.invokestatic 94, 3) := by decide +kernel
theorem dX10_word_44 : decode cX10_word 44 = .ok (.ldiv, 1) := by decide +kernel
theorem dX10_word_45 : decode cX10_word 45 = .ok (.ldc2_w 90, 3) := by decide +kernel
theorem dX10_word_48 : decode cX10_word 48 = .ok (.lrem, 1) := by decide +kernel
theorem dX10_word_49 : decode cX10_word 49 = .ok (.ldc2_w 98, 3) := by decide +kernel
theorem dX10_word_52 : decode cX10_word 52 = .ok (.lcmp, 1) := by decide +kernel
theorem dX10_word_53 : decode cX10_word 53 = .ok (.ifCond .le 6, 3) := by decide +kernel
theorem dX10_word_56 : decode cX10_word 56 = .ok (.bipush (-2), 2) := by decide +kernel
theorem dX10_word_58 : decode cX10_word 58 = .ok (.ireturn, 1) := by decide +kernel
theorem dX10_word_59 : decode cX10_word 59 = .ok (.iinc 4 1, 3) := by decide +kernel
theorem dX10_word_62 : decode cX10_word 62 = .ok (.goto (-30), 3) := by decide +kernel
theorem dX10_word_65 : decode cX10_word 65 = .ok (.aload_n 0, 1) := by decide +kernel
theorem dX10_word_66 : decode cX10_word 66 = .ok (.getfield 100, 3) := by decide +kernel
theorem dX10_word_69 : decode cX10_word 69 = .ok (.istore 4, 2) := by decide +kernel
theorem dX10_word_71 : decode cX10_word 71 = .ok (.aload_n 0, 1) := by decide +kernel
theorem dX10_word_72 : decode cX10_word 72 = .ok (.iload_n 1, 1) := by decide +kernel
theorem dX10_word_73 : decode cX10_word 73 = .ok (.putfield 100, 3) := by decide +kernel
theorem dX10_word_76 : decode cX10_word 76 = .ok (.iconst 0, 1) := by decide +kernel
theorem dX10_word_77 : decode cX10_word 77 = .ok (.istore 5, 2) := by decide +kernel
theorem dX10_word_79 : decode cX10_word 79 = .ok (.iload 5, 2) := by decide +kernel
theorem dX10_word_81 : decode cX10_word 81 = .ok (.iload_n 1, 1) := by decide +kernel
theorem dX10_word_82 : decode cX10_word 82 = .ok (.if_icmp .ge 32, 3) := by decide +kernel
theorem dX10_word_85 : decode cX10_word 85 = .ok (.aload_n 0, 1) := by decide +kernel
theorem dX10_word_86 : decode cX10_word 86 = .ok (.getfield 28, 3) := by decide +kernel
theorem dX10_word_89 : decode cX10_word 89 = .ok (.iload 5, 2) := by decide +kernel
theorem dX10_word_91 : decode cX10_word 91 = .ok (.lload_n 2, 1) := by decide +kernel
theorem dX10_word_92 : decode cX10_word 92 = .ok (.iload_n 1, 1) := by decide +kernel
theorem dX10_word_93 : decode cX10_word 93 = .ok (.iconst 1, 1) := by decide +kernel
theorem dX10_word_94 : decode cX10_word 94 = .ok (.isub, 1) := by decide +kernel
theorem dX10_word_95 : decode cX10_word 95 = .ok (.iload 5, 2) := by decide +kernel
theorem dX10_word_97 : decode cX10_word 97 = .ok (.isub, 1) := by decide +kernel
theorem dX10_word_98 : decode cX10_word 98 = .ok (.invokestatic 94, 3) := by decide +kernel
theorem dX10_word_101 : decode cX10_word 101 = .ok (.ldiv, 1) := by decide +kernel
theorem dX10_word_102 : decode cX10_word 102 = .ok (.ldc2_w 90, 3) := by decide +kernel
theorem dX10_word_105 : decode cX10_word 105 = .ok (.lrem, 1) := by decide +kernel
theorem dX10_word_106 : decode cX10_word 106 = .ok (.l2i, 1) := by decide +kernel
theorem dX10_word_107 : decode cX10_word 107 = .ok (.iastore, 1) := by decide +kernel
theorem dX10_word_108 : decode cX10_word 108 = .ok (.iinc 5 1, 3) := by decide +kernel
theorem dX10_word_111 : decode cX10_word 111 = .ok (.goto (-32), 3) := by decide +kernel
theorem dX10_word_114 : decode cX10_word 114 = .ok (.iload 4, 2) := by decide +kernel
theorem dX10_word_116 : decode cX10_word 116 = .ok (.ireturn, 1) := by decide +kernel
theorem dX10_isPen_0 : decode cX10_isPen 0 = .ok (.iload_n 1, 1) := by decide +kernel
theorem dX10_isPen_1 : decode cX10_isPen 1 = .ok (.i2l, 1) := by decide +kernel
theorem dX10_isPen_2 : decode cX10_isPen 2 = .ok (.lconst 0, 1) := by decide +kernel
theorem dX10_isPen_3 : decode cX10_isPen 3 = .ok (.aload_n 0, 1) := by decide +kernel
theorem dX10_isPen_4 : decode cX10_isPen 4 = .ok (.getfield 84, 3) := by decide +kernel
theorem dX10_isPen_7 : decode cX10_isPen 7 = .ok (.iconst 1, 1) := by decide +kernel
theorem dX10_isPen_8 : decode cX10_isPen 8 = .ok (.isub, 1) := by decide +kernel
theorem dX10_isPen_9 : decode cX10_isPen 9 = .ok (.i2l, 1) := by decide +kernel
theorem dX10_isPen_10 : decode cX10_isPen 10 = .ok (.invokestatic 52, 3) := by decide +kernel
theorem dX10_isPen_13 : decode cX10_isPen 13 = .ok (.ireturn, 1) := by decide +kernel
theorem dX10_across_0 : decode cX10_across 0 = .ok (.iload_n 0, 1) := by decide +kernel
theorem dX10_across_1 : decode cX10_across 1 = .ok (.iconst 2, 1) := by decide +kernel
theorem dX10_across_2 : decode cX10_across 2 = .ok (.if_icmp .eq 9, 3) := by decide +kernel
theorem dX10_across_5 : decode cX10_across 5 = .ok (.iload_n 0, 1) := by decide +kernel
theorem dX10_across_6 : decode cX10_across 6 = .ok (.bipush 6, 2) := by decide +kernel
theorem dX10_across_8 : decode cX10_across 8 = .ok (.if_icmp .ne 7, 3) := by decide +kernel
theorem dX10_across_11 : decode cX10_across 11 = .ok (.iconst 0, 1) := by decide +kernel
theorem dX10_across_12 : decode cX10_across 12 = .ok (.goto 19, 3) := by decide +kernel
theorem dX10_across_15 : decode cX10_across 15 = .ok (.iload_n 0, 1) := by decide +kernel
theorem dX10_across_16 : decode cX10_across 16 = .ok (.iconst 2, 1) := by decide +kernel
theorem dX10_across_17 : decode cX10_across 17 = .ok (.if_icmp .lt 9, 3) := by decide +kernel
theorem dX10_across_20 : decode cX10_across 20 = .ok (.iload_n 0, 1) := by decide +kernel
theorem dX10_across_21 : decode cX10_across 21 = .ok (.bipush 7, 2) := by decide +kernel
theorem dX10_across_23 : decode cX10_across 23 = .ok (.if_icmp .ne 7, 3) := by decide +kernel
theorem dX10_across_26 : decode cX10_across 26 = .ok (.iconst 1, 1) := by decide +kernel
theorem dX10_across_27 : decode cX10_across 27 = .ok (.goto 4, 3) := by decide +kernel
theorem dX10_across_30 : decode cX10_across 30 = .ok (.iconst (-1), 1) := by decide +kernel
theorem dX10_across_31 : decode cX10_across 31 = .ok (.ireturn, 1) := by decide +kernel
theorem dX10_upward_0 : decode cX10_upward 0 = .ok (.iload_n 0, 1) := by decide +kernel
theorem dX10_upward_1 : decode cX10_upward 1 = .ok (.ifCond .eq 8, 3) := by decide +kernel
theorem dX10_upward_4 : decode cX10_upward 4 = .ok (.iload_n 0, 1) := by decide +kernel
theorem dX10_upward_5 : decode cX10_upward 5 = .ok (.iconst 4, 1) := by decide +kernel
theorem dX10_upward_6 : decode cX10_upward 6 = .ok (.if_icmp .ne 7, 3) := by decide +kernel
theorem dX10_upward_9 : decode cX10_upward 9 = .ok (.iconst 0, 1) := by decide +kernel
theorem dX10_upward_10 : decode cX10_upward 10 = .ok (.goto 13, 3) := by decide +kernel
theorem dX10_upward_13 : decode cX10_upward 13 = .ok (.iload_n 0, 1) := by decide +kernel
theorem dX10_upward_14 : decode cX10_upward 14 = .ok (.iconst 4, 1) := by decide +kernel
theorem dX10_upward_15 : decode cX10_upward 15 = .ok (.if_icmp .ge 7, 3) := by decide +kernel
theorem dX10_upward_18 : decode cX10_upward 18 = .ok (.iconst 1, 1) := by decide +kernel
theorem dX10_upward_19 : decode cX10_upward 19 = .ok (.goto 4, 3) := by decide +kernel
theorem dX10_upward_22 : decode cX10_upward 22 = .ok (.iconst (-1), 1) := by decide +kernel
theorem dX10_upward_23 : decode cX10_upward 23 = .ok (.ireturn, 1) := by decide +kernel
theorem dX10_nextDot_0 : decode cX10_nextDot 0 = .ok (.iload_n 0, 1) := by decide +kernel
theorem dX10_nextDot_1 : decode cX10_nextDot 1 = .ok (.iconst 5, 1) := by decide +kernel
theorem dX10_nextDot_2 : decode cX10_nextDot 2 = .ok (.irem, 1) := by decide +kernel
theorem dX10_nextDot_3 : decode cX10_nextDot 3 = .ok (.iload_n 1, 1) := by decide +kernel
theorem dX10_nextDot_4 : decode cX10_nextDot 4 = .ok (.invokestatic 103, 3) := by decide +kernel
theorem dX10_nextDot_7 : decode cX10_nextDot 7 = .ok (.iadd, 1) := by decide +kernel
theorem dX10_nextDot_8 : decode cX10_nextDot 8 = .ok (.istore_n 2, 1) := by decide +kernel
theorem dX10_nextDot_9 : decode cX10_nextDot 9 = .ok (.iload_n 0, 1) := by decide +kernel
theorem dX10_nextDot_10 : decode cX10_nextDot 10 = .ok (.iconst 5, 1) := by decide +kernel
theorem dX10_nextDot_11 : decode cX10_nextDot 11 = .ok (.idiv, 1) := by decide +kernel
theorem dX10_nextDot_12 : decode cX10_nextDot 12 = .ok (.iload_n 1, 1) := by decide +kernel
theorem dX10_nextDot_13 : decode cX10_nextDot 13 = .ok (.invokestatic 107, 3) := by decide +kernel
theorem dX10_nextDot_16 : decode cX10_nextDot 16 = .ok (.iadd, 1) := by decide +kernel
theorem dX10_nextDot_17 : decode cX10_nextDot 17 = .ok (.istore_n 3, 1) := by decide +kernel
theorem dX10_nextDot_18 : decode cX10_nextDot 18 = .ok (.iload_n 2, 1) := by decide +kernel
theorem dX10_nextDot_19 : decode cX10_nextDot 19 = .ok (.i2l, 1) := by decide +kernel
theorem dX10_nextDot_20 : decode cX10_nextDot 20 = .ok (.lconst 0, 1) := by decide +kernel
theorem dX10_nextDot_21 : decode cX10_nextDot 21 = .ok (.ldc2_w 110, 3) := by decide +kernel
theorem dX10_nextDot_24 : decode cX10_nextDot 24 = .ok (.invokestatic 52, 3) := by decide +kernel
theorem dX10_nextDot_27 : decode cX10_nextDot 27 = .ok (.ifCond .eq 23, 3) := by decide +kernel
theorem dX10_nextDot_30 : decode cX10_nextDot 30 = .ok (.iload_n 3, 1) := by decide +kernel
theorem dX10_nextDot_31 : decode cX10_nextDot 31 = .ok (.i2l, 1) := by decide +kernel
theorem dX10_nextDot_32 : decode cX10_nextDot 32 = .ok (.lconst 0, 1) := by decide +kernel
theorem dX10_nextDot_33 : decode cX10_nextDot 33 = .ok (.ldc2_w 110, 3) := by decide +kernel
theorem dX10_nextDot_36 : decode cX10_nextDot 36 = .ok (.invokestatic 52, 3) := by decide +kernel
theorem dX10_nextDot_39 : decode cX10_nextDot 39 = .ok (.ifCond .eq 11, 3) := by decide +kernel
theorem dX10_nextDot_42 : decode cX10_nextDot 42 = .ok (.iconst 5, 1) := by decide +kernel
theorem dX10_nextDot_43 : decode cX10_nextDot 43 = .ok (.iload_n 3, 1) := by decide +kernel
theorem dX10_nextDot_44 : decode cX10_nextDot 44 = .ok (.imul, 1) := by decide +kernel
theorem dX10_nextDot_45 : decode cX10_nextDot 45 = .ok (.iload_n 2, 1) := by decide +kernel
theorem dX10_nextDot_46 : decode cX10_nextDot 46 = .ok (.iadd, 1) := by decide +kernel
theorem dX10_nextDot_47 : decode cX10_nextDot 47 = .ok (.goto 5, 3) := by decide +kernel
theorem dX10_nextDot_50 : decode cX10_nextDot 50 = .ok (.bipush (-9), 2) := by decide +kernel
theorem dX10_nextDot_52 : decode cX10_nextDot 52 = .ok (.ireturn, 1) := by decide +kernel
theorem dX10_size_0 : decode cX10_size 0 = .ok (.iload_n 0, 1) := by decide +kernel
theorem dX10_size_1 : decode cX10_size 1 = .ok (.ifCond .ge 8, 3) := by decide +kernel
theorem dX10_size_4 : decode cX10_size 4 = .ok (.iload_n 0, 1) := by decide +kernel
theorem dX10_size_5 : decode cX10_size 5 = .ok (.ineg, 1) := by decide +kernel
theorem dX10_size_6 : decode cX10_size 6 = .ok (.goto 4, 3) := by decide +kernel
theorem dX10_size_9 : decode cX10_size 9 = .ok (.iload_n 0, 1) := by decide +kernel
theorem dX10_size_10 : decode cX10_size 10 = .ok (.ireturn, 1) := by decide +kernel
theorem dX10_thickOn_0 : decode cX10_thickOn 0 = .ok (.aload_n 0, 1) := by decide +kernel
theorem dX10_thickOn_1 : decode cX10_thickOn 1 = .ok (.getfield 16, 3) := by decide +kernel
theorem dX10_thickOn_4 : decode cX10_thickOn 4 = .ok (.bipush 43, 2) := by decide +kernel
theorem dX10_thickOn_6 : decode cX10_thickOn 6 = .ok (.iload_n 1, 1) := by decide +kernel
theorem dX10_thickOn_7 : decode cX10_thickOn 7 = .ok (.imul, 1) := by decide +kernel
theorem dX10_thickOn_8 : decode cX10_thickOn 8 = .ok (.iconst 4, 1) := by decide +kernel
theorem dX10_thickOn_9 : decode cX10_thickOn 9 = .ok (.iadd, 1) := by decide +kernel
theorem dX10_thickOn_10 : decode cX10_thickOn 10 = .ok (.iload_n 2, 1) := by decide +kernel
theorem dX10_thickOn_11 : decode cX10_thickOn 11 = .ok (.iadd, 1) := by decide +kernel
theorem dX10_thickOn_12 : decode cX10_thickOn 12 = .ok (.iaload, 1) := by decide +kernel
theorem dX10_thickOn_13 : decode cX10_thickOn 13 = .ok (.istore 4, 2) := by decide +kernel
theorem dX10_thickOn_15 : decode cX10_thickOn 15 = .ok (.aload_n 0, 1) := by decide +kernel
theorem dX10_thickOn_16 : decode cX10_thickOn 16 = .ok (.getfield 16, 3) := by decide +kernel
theorem dX10_thickOn_19 : decode cX10_thickOn 19 = .ok (.bipush 43, 2) := by decide +kernel
theorem dX10_thickOn_21 : decode cX10_thickOn 21 = .ok (.iload_n 1, 1) := by decide +kernel
theorem dX10_thickOn_22 : decode cX10_thickOn 22 = .ok (.imul, 1) := by decide +kernel
theorem dX10_thickOn_23 : decode cX10_thickOn 23 = .ok (.bipush 8, 2) := by decide +kernel
theorem dX10_thickOn_25 : decode cX10_thickOn 25 = .ok (.iadd, 1) := by decide +kernel
theorem dX10_thickOn_26 : decode cX10_thickOn 26 = .ok (.iload_n 2, 1) := by decide +kernel
theorem dX10_thickOn_27 : decode cX10_thickOn 27 = .ok (.iadd, 1) := by decide +kernel
theorem dX10_thickOn_28 : decode cX10_thickOn 28 = .ok (.iaload, 1) := by decide +kernel
theorem dX10_thickOn_29 : decode cX10_thickOn 29 = .ok (.istore 5, 2) := by decide +kernel
theorem dX10_thickOn_31 : decode cX10_thickOn 31 = .ok (.iload_n 3, 1) := by decide +kernel
theorem dX10_thickOn_32 : decode cX10_thickOn 32 = .ok (.invokestatic 103, 3) := by decide +kernel
theorem dX10_thickOn_35 : decode cX10_thickOn 35 = .ok (.iload 5, 2) := by decide +kernel
theorem dX10_thickOn_37 : decode cX10_thickOn 37 = .ok (.imul, 1) := by decide +kernel
theorem dX10_thickOn_38 : decode cX10_thickOn 38 = .ok (.iload_n 3, 1) := by decide +kernel
theorem dX10_thickOn_39 : decode cX10_thickOn 39 = .ok (.invokestatic 107, 3) := by decide +kernel
theorem dX10_thickOn_42 : decode cX10_thickOn 42 = .ok (.iload 4, 2) := by decide +kernel
theorem dX10_thickOn_44 : decode cX10_thickOn 44 = .ok (.imul, 1) := by decide +kernel
theorem dX10_thickOn_45 : decode cX10_thickOn 45 = .ok (.isub, 1) := by decide +kernel
theorem dX10_thickOn_46 : decode cX10_thickOn 46 = .ok (.invokestatic 112, 3) := by decide +kernel
theorem dX10_thickOn_49 : decode cX10_thickOn 49 = .ok (.istore 6, 2) := by decide +kernel
theorem dX10_thickOn_51 : decode cX10_thickOn 51 = .ok (.aload_n 0, 1) := by decide +kernel
theorem dX10_thickOn_52 : decode cX10_thickOn 52 = .ok (.getfield 7, 3) := by decide +kernel
theorem dX10_thickOn_55 : decode cX10_thickOn 55 = .ok (.iload_n 2, 1) := by decide +kernel
theorem dX10_thickOn_56 : decode cX10_thickOn 56 = .ok (.iaload, 1) := by decide +kernel
theorem dX10_thickOn_57 : decode cX10_thickOn 57 = .ok (.iconst 1, 1) := by decide +kernel
theorem dX10_thickOn_58 : decode cX10_thickOn 58 = .ok (.if_icmp .ne 28, 3) := by decide +kernel
theorem dX10_thickOn_61 : decode cX10_thickOn 61 = .ok (.iload_n 3, 1) := by decide +kernel
theorem dX10_thickOn_62 : decode cX10_thickOn 62 = .ok (.invokestatic 107, 3) := by decide +kernel
theorem dX10_thickOn_65 : decode cX10_thickOn 65 = .ok (.ifCond .lt 7, 3) := by decide +kernel
theorem dX10_thickOn_68 : decode cX10_thickOn 68 = .ok (.iconst 1, 1) := by decide +kernel
theorem dX10_thickOn_69 : decode cX10_thickOn 69 = .ok (.goto 16, 3) := by decide +kernel
theorem dX10_thickOn_72 : decode cX10_thickOn 72 = .ok (.iconst 1, 1) := by decide +kernel
theorem dX10_thickOn_73 : decode cX10_thickOn 73 = .ok (.iload 4, 2) := by decide +kernel
theorem dX10_thickOn_75 : decode cX10_thickOn 75 = .ok (.invokestatic 112, 3) := by decide +kernel
theorem dX10_thickOn_78 : decode cX10_thickOn 78 = .ok (.iadd, 1) := by decide +kernel
theorem dX10_thickOn_79 : decode cX10_thickOn 79 = .ok (.iload 5, 2) := by decide +kernel
theorem dX10_thickOn_81 : decode cX10_thickOn 81 = .ok (.invokestatic 112, 3) := by decide +kernel
theorem dX10_thickOn_84 : decode cX10_thickOn 84 = .ok (.iadd, 1) := by decide +kernel
theorem dX10_thickOn_85 : decode cX10_thickOn 85 = .ok (.ireturn, 1) := by decide +kernel
theorem dX10_thickOn_86 : decode cX10_thickOn 86 = .ok (.aload_n 0, 1) := by decide +kernel
theorem dX10_thickOn_87 : decode cX10_thickOn 87 = .ok (.getfield 7, 3) := by decide +kernel
theorem dX10_thickOn_90 : decode cX10_thickOn 90 = .ok (.iload_n 2, 1) := by decide +kernel
theorem dX10_thickOn_91 : decode cX10_thickOn 91 = .ok (.iaload, 1) := by decide +kernel
theorem dX10_thickOn_92 : decode cX10_thickOn 92 = .ok (.iconst 3, 1) := by decide +kernel
theorem dX10_thickOn_93 : decode cX10_thickOn 93 = .ok (.if_icmp .ne 20, 3) := by decide +kernel
theorem dX10_thickOn_96 : decode cX10_thickOn 96 = .ok (.iload 6, 2) := by decide +kernel
theorem dX10_thickOn_98 : decode cX10_thickOn 98 = .ok (.iconst 1, 1) := by decide +kernel
theorem dX10_thickOn_99 : decode cX10_thickOn 99 = .ok (.iadd, 1) := by decide +kernel
theorem dX10_thickOn_100 : decode cX10_thickOn 100 = .ok (.iconst 2, 1) := by decide +kernel
theorem dX10_thickOn_101 : decode cX10_thickOn 101 = .ok (.if_icmp .le 7, 3) := by decide +kernel
theorem dX10_thickOn_104 : decode cX10_thickOn 104 = .ok (.iconst 2, 1) := by decide +kernel
theorem dX10_thickOn_105 : decode cX10_thickOn 105 = .ok (.goto 7, 3) := by decide +kernel
theorem dX10_thickOn_108 : decode cX10_thickOn 108 = .ok (.iload 6, 2) := by decide +kernel
theorem dX10_thickOn_110 : decode cX10_thickOn 110 = .ok (.iconst 1, 1) := by decide +kernel
theorem dX10_thickOn_111 : decode cX10_thickOn 111 = .ok (.iadd, 1) := by decide +kernel
theorem dX10_thickOn_112 : decode cX10_thickOn 112 = .ok (.ireturn, 1) := by decide +kernel
theorem dX10_thickOn_113 : decode cX10_thickOn 113 = .ok (.aload_n 0, 1) := by decide +kernel
theorem dX10_thickOn_114 : decode cX10_thickOn 114 = .ok (.getfield 7, 3) := by decide +kernel
theorem dX10_thickOn_117 : decode cX10_thickOn 117 = .ok (.iload_n 2, 1) := by decide +kernel
theorem dX10_thickOn_118 : decode cX10_thickOn 118 = .ok (.iaload, 1) := by decide +kernel
theorem dX10_thickOn_119 : decode cX10_thickOn 119 = .ok (.iconst 2, 1) := by decide +kernel
theorem dX10_thickOn_120 : decode cX10_thickOn 120 = .ok (.if_icmp .ne 10, 3) := by decide +kernel
theorem dX10_thickOn_123 : decode cX10_thickOn 123 = .ok (.iload 6, 2) := by decide +kernel
theorem dX10_thickOn_125 : decode cX10_thickOn 125 = .ok (.iconst 1, 1) := by decide +kernel
theorem dX10_thickOn_126 : decode cX10_thickOn 126 = .ok (.iadd, 1) := by decide +kernel
theorem dX10_thickOn_127 : decode cX10_thickOn 127 = .ok (.goto 5, 3) := by decide +kernel
theorem dX10_thickOn_130 : decode cX10_thickOn 130 = .ok (.iload 6, 2) := by decide +kernel
theorem dX10_thickOn_132 : decode cX10_thickOn 132 = .ok (.ireturn, 1) := by decide +kernel
theorem dX10_canStep_0 : decode cX10_canStep 0 = .ok (.aload_n 0, 1) := by decide +kernel
theorem dX10_canStep_1 : decode cX10_canStep 1 = .ok (.iload_n 2, 1) := by decide +kernel
theorem dX10_canStep_2 : decode cX10_canStep 2 = .ok (.invokevirtual 115, 3) := by decide +kernel
theorem dX10_canStep_5 : decode cX10_canStep 5 = .ok (.ifCond .eq 39, 3) := by decide +kernel
theorem dX10_canStep_8 : decode cX10_canStep 8 = .ok (.iload_n 3, 1) := by decide +kernel
theorem dX10_canStep_9 : decode cX10_canStep 9 = .ok (.i2l, 1) := by decide +kernel
theorem dX10_canStep_10 : decode cX10_canStep 10 = .ok (.lconst 0, 1) := by decide +kernel
theorem dX10_canStep_11 : decode cX10_canStep 11 = .ok (.ldc2_w 98, 3) := by decide +kernel
theorem dX10_canStep_14 : decode cX10_canStep 14 = .ok (.invokestatic 52, 3) := by decide +kernel
theorem dX10_canStep_17 : decode cX10_canStep 17 = .ok (.ifCond .eq 27, 3) := by decide +kernel
theorem dX10_canStep_20 : decode cX10_canStep 20 = .ok (.aload_n 0, 1) := by decide +kernel
theorem dX10_canStep_21 : decode cX10_canStep 21 = .ok (.getfield 16, 3) := by decide +kernel
theorem dX10_canStep_24 : decode cX10_canStep 24 = .ok (.bipush 43, 2) := by decide +kernel
theorem dX10_canStep_26 : decode cX10_canStep 26 = .ok (.iload_n 1, 1) := by decide +kernel
theorem dX10_canStep_27 : decode cX10_canStep 27 = .ok (.imul, 1) := by decide +kernel
theorem dX10_canStep_28 : decode cX10_canStep 28 = .ok (.iload_n 2, 1) := by decide +kernel
theorem dX10_canStep_29 : decode cX10_canStep 29 = .ok (.iadd, 1) := by decide +kernel
theorem dX10_canStep_30 : decode cX10_canStep 30 = .ok (.iaload, 1) := by decide +kernel
theorem dX10_canStep_31 : decode cX10_canStep 31 = .ok (.iload_n 3, 1) := by decide +kernel
theorem dX10_canStep_32 : decode cX10_canStep 32 = .ok (.invokestatic 119, 3) := by decide +kernel
theorem dX10_canStep_35 : decode cX10_canStep 35 = .ok (.bipush (-9), 2) := by decide +kernel
theorem dX10_canStep_37 : decode cX10_canStep 37 = .ok (.if_icmp .eq 7, 3) := by decide +kernel
theorem dX10_canStep_40 : decode cX10_canStep 40 = .ok (.iconst 1, 1) := by decide +kernel
theorem dX10_canStep_41 : decode cX10_canStep 41 = .ok (.goto 4, 3) := by decide +kernel
theorem dX10_canStep_44 : decode cX10_canStep 44 = .ok (.iconst 0, 1) := by decide +kernel
theorem dX10_canStep_45 : decode cX10_canStep 45 = .ok (.ireturn, 1) := by decide +kernel
theorem dX10_stepOn_0 : decode cX10_stepOn 0 = .ok (.bipush 43, 2) := by decide +kernel
theorem dX10_stepOn_2 : decode cX10_stepOn 2 = .ok (.iload_n 1, 1) := by decide +kernel
theorem dX10_stepOn_3 : decode cX10_stepOn 3 = .ok (.imul, 1) := by decide +kernel
theorem dX10_stepOn_4 : decode cX10_stepOn 4 = .ok (.istore 4, 2) := by decide +kernel
theorem dX10_stepOn_6 : decode cX10_stepOn 6 = .ok (.aload_n 0, 1) := by decide +kernel
theorem dX10_stepOn_7 : decode cX10_stepOn 7 = .ok (.iload_n 1, 1) := by decide +kernel
theorem dX10_stepOn_8 : decode cX10_stepOn 8 = .ok (.iload_n 2, 1) := by decide +kernel
theorem dX10_stepOn_9 : decode cX10_stepOn 9 = .ok (.iload_n 3, 1) := by decide +kernel
theorem dX10_stepOn_10 : decode cX10_stepOn 10 = .ok (.invokevirtual 122, 3) := by decide +kernel
theorem dX10_stepOn_13 : decode cX10_stepOn 13 = .ok (.istore 5, 2) := by decide +kernel
theorem dX10_stepOn_15 : decode cX10_stepOn 15 = .ok (.aload_n 0, 1) := by decide +kernel
theorem dX10_stepOn_16 : decode cX10_stepOn 16 = .ok (.getfield 16, 3) := by decide +kernel
theorem dX10_stepOn_19 : decode cX10_stepOn 19 = .ok (.iload 4, 2) := by decide +kernel
theorem dX10_stepOn_21 : decode cX10_stepOn 21 = .ok (.iload_n 2, 1) := by decide +kernel
theorem dX10_stepOn_22 : decode cX10_stepOn 22 = .ok (.iadd, 1) := by decide +kernel
theorem dX10_stepOn_23 : decode cX10_stepOn 23 = .ok (.iaload, 1) := by decide +kernel
theorem dX10_stepOn_24 : decode cX10_stepOn 24 = .ok (.iload_n 3, 1) := by decide +kernel
theorem dX10_stepOn_25 : decode cX10_stepOn 25 = .ok (.invokestatic 119, 3) := by decide +kernel
theorem dX10_stepOn_28 : decode cX10_stepOn 28 = .ok (.istore 6, 2) := by decide +kernel
theorem dX10_stepOn_30 : decode cX10_stepOn 30 = .ok (.aload_n 0, 1) := by decide +kernel
theorem dX10_stepOn_31 : decode cX10_stepOn 31 = .ok (.getfield 16, 3) := by decide +kernel
theorem dX10_stepOn_34 : decode cX10_stepOn 34 = .ok (.iload 4, 2) := by decide +kernel
theorem dX10_stepOn_36 : decode cX10_stepOn 36 = .ok (.bipush 16, 2) := by decide +kernel
theorem dX10_stepOn_38 : decode cX10_stepOn 38 = .ok (.iadd, 1) := by decide +kernel
theorem dX10_stepOn_39 : decode cX10_stepOn 39 = .ok (.iaload, 1) := by decide +kernel
theorem dX10_stepOn_40 : decode cX10_stepOn 40 = .ok (.iload_n 2, 1) := by decide +kernel
theorem dX10_stepOn_41 : decode cX10_stepOn 41 = .ok (.invokestatic 126, 3) := by decide +kernel
theorem dX10_stepOn_44 : decode cX10_stepOn 44 = .ok (.ifCond .ne 7, 3) := by decide +kernel
theorem dX10_stepOn_47 : decode cX10_stepOn 47 = .ok (.iconst 0, 1) := by decide +kernel
theorem dX10_stepOn_48 : decode cX10_stepOn 48 = .ok (.goto 37, 3) := by decide +kernel
theorem dX10_stepOn_51 : decode cX10_stepOn 51 = .ok (.iload 5, 2) := by decide +kernel
theorem dX10_stepOn_53 : decode cX10_stepOn 53 = .ok (.aload_n 0, 1) := by decide +kernel
theorem dX10_stepOn_54 : decode cX10_stepOn 54 = .ok (.getfield 16, 3) := by decide +kernel
theorem dX10_stepOn_57 : decode cX10_stepOn 57 = .ok (.iload 4, 2) := by decide +kernel
theorem dX10_stepOn_59 : decode cX10_stepOn 59 = .ok (.bipush 12, 2) := by decide +kernel
theorem dX10_stepOn_61 : decode cX10_stepOn 61 = .ok (.iadd, 1) := by decide +kernel
theorem dX10_stepOn_62 : decode cX10_stepOn 62 = .ok (.iload_n 2, 1) := by decide +kernel
theorem dX10_stepOn_63 : decode cX10_stepOn 63 = .ok (.iadd, 1) := by decide +kernel
theorem dX10_stepOn_64 : decode cX10_stepOn 64 = .ok (.iaload, 1) := by decide +kernel
theorem dX10_stepOn_65 : decode cX10_stepOn 65 = .ok (.if_icmp .ge 8, 3) := by decide +kernel
theorem dX10_stepOn_68 : decode cX10_stepOn 68 = .ok (.iload 5, 2) := by decide +kernel
theorem dX10_stepOn_70 : decode cX10_stepOn 70 = .ok (.goto 15, 3) := by decide +kernel
theorem dX10_stepOn_73 : decode cX10_stepOn 73 = .ok (.aload_n 0, 1) := by decide +kernel
theorem dX10_stepOn_74 : decode cX10_stepOn 74 = .ok (.getfield 16, 3) := by decide +kernel
theorem dX10_stepOn_77 : decode cX10_stepOn 77 = .ok (.iload 4, 2) := by decide +kernel
theorem dX10_stepOn_79 : decode cX10_stepOn 79 = .ok (.bipush 12, 2) := by decide +kernel
theorem dX10_stepOn_81 : decode cX10_stepOn 81 = .ok (.iadd, 1) := by decide +kernel
theorem dX10_stepOn_82 : decode cX10_stepOn 82 = .ok (.iload_n 2, 1) := by decide +kernel
theorem dX10_stepOn_83 : decode cX10_stepOn 83 = .ok (.iadd, 1) := by decide +kernel
theorem dX10_stepOn_84 : decode cX10_stepOn 84 = .ok (.iaload, 1) := by decide +kernel
theorem dX10_stepOn_85 : decode cX10_stepOn 85 = .ok (.istore 7, 2) := by decide +kernel
theorem dX10_stepOn_87 : decode cX10_stepOn 87 = .ok (.aload_n 0, 1) := by decide +kernel
theorem dX10_stepOn_88 : decode cX10_stepOn 88 = .ok (.getfield 16, 3) := by decide +kernel
theorem dX10_stepOn_91 : decode cX10_stepOn 91 = .ok (.iload 4, 2) := by decide +kernel
theorem dX10_stepOn_93 : decode cX10_stepOn 93 = .ok (.iload_n 2, 1) := by decide +kernel
theorem dX10_stepOn_94 : decode cX10_stepOn 94 = .ok (.iadd, 1) := by decide +kernel
theorem dX10_stepOn_95 : decode cX10_stepOn 95 = .ok (.iload 6, 2) := by decide +kernel
theorem dX10_stepOn_97 : decode cX10_stepOn 97 = .ok (.iastore, 1) := by decide +kernel
theorem dX10_stepOn_98 : decode cX10_stepOn 98 = .ok (.aload_n 0, 1) := by decide +kernel
theorem dX10_stepOn_99 : decode cX10_stepOn 99 = .ok (.getfield 16, 3) := by decide +kernel
theorem dX10_stepOn_102 : decode cX10_stepOn 102 = .ok (.iload 4, 2) := by decide +kernel
theorem dX10_stepOn_104 : decode cX10_stepOn 104 = .ok (.bipush 12, 2) := by decide +kernel
theorem dX10_stepOn_106 : decode cX10_stepOn 106 = .ok (.iadd, 1) := by decide +kernel
theorem dX10_stepOn_107 : decode cX10_stepOn 107 = .ok (.iload_n 2, 1) := by decide +kernel
theorem dX10_stepOn_108 : decode cX10_stepOn 108 = .ok (.iadd, 1) := by decide +kernel
theorem dX10_stepOn_109 : decode cX10_stepOn 109 = .ok (.dup2, 1) := by decide +kernel
theorem dX10_stepOn_110 : decode cX10_stepOn 110 = .ok (.iaload, 1) := by decide +kernel
theorem dX10_stepOn_111 : decode cX10_stepOn 111 = .ok (.iload 7, 2) := by decide +kernel
theorem dX10_stepOn_113 : decode cX10_stepOn 113 = .ok (.isub, 1) := by decide +kernel
theorem dX10_stepOn_114 : decode cX10_stepOn 114 = .ok (.iastore, 1) := by decide +kernel
theorem dX10_stepOn_115 : decode cX10_stepOn 115 = .ok (.aload_n 0, 1) := by decide +kernel
theorem dX10_stepOn_116 : decode cX10_stepOn 116 = .ok (.getfield 16, 3) := by decide +kernel
theorem dX10_stepOn_119 : decode cX10_stepOn 119 = .ok (.iload 4, 2) := by decide +kernel
theorem dX10_stepOn_121 : decode cX10_stepOn 121 = .ok (.bipush 18, 2) := by decide +kernel
theorem dX10_stepOn_123 : decode cX10_stepOn 123 = .ok (.iadd, 1) := by decide +kernel
theorem dX10_stepOn_124 : decode cX10_stepOn 124 = .ok (.iload 6, 2) := by decide +kernel
theorem dX10_stepOn_126 : decode cX10_stepOn 126 = .ok (.iadd, 1) := by decide +kernel
theorem dX10_stepOn_127 : decode cX10_stepOn 127 = .ok (.iaload, 1) := by decide +kernel
theorem dX10_stepOn_128 : decode cX10_stepOn 128 = .ok (.iload 7, 2) := by decide +kernel
theorem dX10_stepOn_130 : decode cX10_stepOn 130 = .ok (.iadd, 1) := by decide +kernel
theorem dX10_stepOn_131 : decode cX10_stepOn 131 = .ok (.istore 8, 2) := by decide +kernel
theorem dX10_stepOn_133 : decode cX10_stepOn 133 = .ok (.aload_n 0, 1) := by decide +kernel
theorem dX10_stepOn_134 : decode cX10_stepOn 134 = .ok (.getfield 16, 3) := by decide +kernel
theorem dX10_stepOn_137 : decode cX10_stepOn 137 = .ok (.iload 4, 2) := by decide +kernel
theorem dX10_stepOn_139 : decode cX10_stepOn 139 = .ok (.bipush 18, 2) := by decide +kernel
theorem dX10_stepOn_141 : decode cX10_stepOn 141 = .ok (.iadd, 1) := by decide +kernel
theorem dX10_stepOn_142 : decode cX10_stepOn 142 = .ok (.iload 6, 2) := by decide +kernel
theorem dX10_stepOn_144 : decode cX10_stepOn 144 = .ok (.iadd, 1) := by decide +kernel
theorem dX10_stepOn_145 : decode cX10_stepOn 145 = .ok (.iload 8, 2) := by decide +kernel
theorem dX10_stepOn_147 : decode cX10_stepOn 147 = .ok (.bipush 99, 2) := by decide +kernel
theorem dX10_stepOn_149 : decode cX10_stepOn 149 = .ok (.if_icmp .le 8, 3) := by decide +kernel
theorem dX10_stepOn_152 : decode cX10_stepOn 152 = .ok (.bipush 99, 2) := by decide +kernel
theorem dX10_stepOn_154 : decode cX10_stepOn 154 = .ok (.goto 5, 3) := by decide +kernel
theorem dX10_stepOn_157 : decode cX10_stepOn 157 = .ok (.iload 8, 2) := by decide +kernel
theorem dX10_stepOn_159 : decode cX10_stepOn 159 = .ok (.iastore, 1) := by decide +kernel
theorem dX10_stepOn_160 : decode cX10_stepOn 160 = .ok (.aload_n 0, 1) := by decide +kernel
theorem dX10_stepOn_161 : decode cX10_stepOn 161 = .ok (.getfield 16, 3) := by decide +kernel
theorem dX10_stepOn_164 : decode cX10_stepOn 164 = .ok (.iload 4, 2) := by decide +kernel
theorem dX10_stepOn_166 : decode cX10_stepOn 166 = .ok (.bipush 17, 2) := by decide +kernel
theorem dX10_stepOn_168 : decode cX10_stepOn 168 = .ok (.iadd, 1) := by decide +kernel
theorem dX10_stepOn_169 : decode cX10_stepOn 169 = .ok (.dup2, 1) := by decide +kernel
theorem dX10_stepOn_170 : decode cX10_stepOn 170 = .ok (.iaload, 1) := by decide +kernel
theorem dX10_stepOn_171 : decode cX10_stepOn 171 = .ok (.iconst 1, 1) := by decide +kernel
theorem dX10_stepOn_172 : decode cX10_stepOn 172 = .ok (.iadd, 1) := by decide +kernel
theorem dX10_stepOn_173 : decode cX10_stepOn 173 = .ok (.iastore, 1) := by decide +kernel
theorem dX10_stepOn_174 : decode cX10_stepOn 174 = .ok (.iload 7, 2) := by decide +kernel
theorem dX10_stepOn_176 : decode cX10_stepOn 176 = .ok (.ireturn, 1) := by decide +kernel
theorem dX10_turnOn_0 : decode cX10_turnOn 0 = .ok (.bipush 43, 2) := by decide +kernel
theorem dX10_turnOn_2 : decode cX10_turnOn 2 = .ok (.iload_n 1, 1) := by decide +kernel
theorem dX10_turnOn_3 : decode cX10_turnOn 3 = .ok (.imul, 1) := by decide +kernel
theorem dX10_turnOn_4 : decode cX10_turnOn 4 = .ok (.istore_n 3, 1) := by decide +kernel
theorem dX10_turnOn_5 : decode cX10_turnOn 5 = .ok (.aload_n 0, 1) := by decide +kernel
theorem dX10_turnOn_6 : decode cX10_turnOn 6 = .ok (.getfield 16, 3) := by decide +kernel
theorem dX10_turnOn_9 : decode cX10_turnOn 9 = .ok (.iload_n 3, 1) := by decide +kernel
theorem dX10_turnOn_10 : decode cX10_turnOn 10 = .ok (.iconst 4, 1) := by decide +kernel
theorem dX10_turnOn_11 : decode cX10_turnOn 11 = .ok (.iadd, 1) := by decide +kernel
theorem dX10_turnOn_12 : decode cX10_turnOn 12 = .ok (.iload_n 2, 1) := by decide +kernel
theorem dX10_turnOn_13 : decode cX10_turnOn 13 = .ok (.iadd, 1) := by decide +kernel
theorem dX10_turnOn_14 : decode cX10_turnOn 14 = .ok (.iaload, 1) := by decide +kernel
theorem dX10_turnOn_15 : decode cX10_turnOn 15 = .ok (.istore 4, 2) := by decide +kernel
theorem dX10_turnOn_17 : decode cX10_turnOn 17 = .ok (.aload_n 0, 1) := by decide +kernel
theorem dX10_turnOn_18 : decode cX10_turnOn 18 = .ok (.getfield 16, 3) := by decide +kernel
theorem dX10_turnOn_21 : decode cX10_turnOn 21 = .ok (.iload_n 3, 1) := by decide +kernel
theorem dX10_turnOn_22 : decode cX10_turnOn 22 = .ok (.iconst 4, 1) := by decide +kernel
theorem dX10_turnOn_23 : decode cX10_turnOn 23 = .ok (.iadd, 1) := by decide +kernel
theorem dX10_turnOn_24 : decode cX10_turnOn 24 = .ok (.iload_n 2, 1) := by decide +kernel
theorem dX10_turnOn_25 : decode cX10_turnOn 25 = .ok (.iadd, 1) := by decide +kernel
theorem dX10_turnOn_26 : decode cX10_turnOn 26 = .ok (.aload_n 0, 1) := by decide +kernel
theorem dX10_turnOn_27 : decode cX10_turnOn 27 = .ok (.getfield 16, 3) := by decide +kernel
theorem dX10_turnOn_30 : decode cX10_turnOn 30 = .ok (.iload_n 3, 1) := by decide +kernel
theorem dX10_turnOn_31 : decode cX10_turnOn 31 = .ok (.bipush 8, 2) := by decide +kernel
theorem dX10_turnOn_33 : decode cX10_turnOn 33 = .ok (.iadd, 1) := by decide +kernel
theorem dX10_turnOn_34 : decode cX10_turnOn 34 = .ok (.iload_n 2, 1) := by decide +kernel
theorem dX10_turnOn_35 : decode cX10_turnOn 35 = .ok (.iadd, 1) := by decide +kernel
theorem dX10_turnOn_36 : decode cX10_turnOn 36 = .ok (.iaload, 1) := by decide +kernel
theorem dX10_turnOn_37 : decode cX10_turnOn 37 = .ok (.ineg, 1) := by decide +kernel
theorem dX10_turnOn_38 : decode cX10_turnOn 38 = .ok (.iastore, 1) := by decide +kernel
theorem dX10_turnOn_39 : decode cX10_turnOn 39 = .ok (.aload_n 0, 1) := by decide +kernel
theorem dX10_turnOn_40 : decode cX10_turnOn 40 = .ok (.getfield 16, 3) := by decide +kernel
theorem dX10_turnOn_43 : decode cX10_turnOn 43 = .ok (.iload_n 3, 1) := by decide +kernel
theorem dX10_turnOn_44 : decode cX10_turnOn 44 = .ok (.bipush 8, 2) := by decide +kernel
theorem dX10_turnOn_46 : decode cX10_turnOn 46 = .ok (.iadd, 1) := by decide +kernel
theorem dX10_turnOn_47 : decode cX10_turnOn 47 = .ok (.iload_n 2, 1) := by decide +kernel
theorem dX10_turnOn_48 : decode cX10_turnOn 48 = .ok (.iadd, 1) := by decide +kernel
theorem dX10_turnOn_49 : decode cX10_turnOn 49 = .ok (.iload 4, 2) := by decide +kernel
theorem dX10_turnOn_51 : decode cX10_turnOn 51 = .ok (.iastore, 1) := by decide +kernel
theorem dX10_turnOn_52 : decode cX10_turnOn 52 = .ok (.return_, 1) := by decide +kernel
theorem dX10_nibOf_0 : decode cX10_nibOf 0 = .ok (.bipush 10, 2) := by decide +kernel
theorem dX10_nibOf_2 : decode cX10_nibOf 2 = .ok (.aload_n 0, 1) := by decide +kernel
theorem dX10_nibOf_3 : decode cX10_nibOf 3 = .ok (.getfield 16, 3) := by decide +kernel
theorem dX10_nibOf_6 : decode cX10_nibOf 6 = .ok (.iconst 4, 1) := by decide +kernel
theorem dX10_nibOf_7 : decode cX10_nibOf 7 = .ok (.iload_n 1, 1) := by decide +kernel
theorem dX10_nibOf_8 : decode cX10_nibOf 8 = .ok (.iadd, 1) := by decide +kernel
theorem dX10_nibOf_9 : decode cX10_nibOf 9 = .ok (.iaload, 1) := by decide +kernel
theorem dX10_nibOf_10 : decode cX10_nibOf 10 = .ok (.iconst 3, 1) := by decide +kernel
theorem dX10_nibOf_11 : decode cX10_nibOf 11 = .ok (.iadd, 1) := by decide +kernel
theorem dX10_nibOf_12 : decode cX10_nibOf 12 = .ok (.imul, 1) := by decide +kernel
theorem dX10_nibOf_13 : decode cX10_nibOf 13 = .ok (.aload_n 0, 1) := by decide +kernel
theorem dX10_nibOf_14 : decode cX10_nibOf 14 = .ok (.getfield 16, 3) := by decide +kernel
theorem dX10_nibOf_17 : decode cX10_nibOf 17 = .ok (.bipush 8, 2) := by decide +kernel
theorem dX10_nibOf_19 : decode cX10_nibOf 19 = .ok (.iload_n 1, 1) := by decide +kernel
theorem dX10_nibOf_20 : decode cX10_nibOf 20 = .ok (.iadd, 1) := by decide +kernel
theorem dX10_nibOf_21 : decode cX10_nibOf 21 = .ok (.iaload, 1) := by decide +kernel
theorem dX10_nibOf_22 : decode cX10_nibOf 22 = .ok (.iadd, 1) := by decide +kernel
theorem dX10_nibOf_23 : decode cX10_nibOf 23 = .ok (.iconst 3, 1) := by decide +kernel
theorem dX10_nibOf_24 : decode cX10_nibOf 24 = .ok (.iadd, 1) := by decide +kernel
theorem dX10_nibOf_25 : decode cX10_nibOf 25 = .ok (.ireturn, 1) := by decide +kernel
theorem dX10_writeOn_0 : decode cX10_writeOn 0 = .ok (.iconst 0, 1) := by decide +kernel
theorem dX10_writeOn_1 : decode cX10_writeOn 1 = .ok (.istore 5, 2) := by decide +kernel
theorem dX10_writeOn_3 : decode cX10_writeOn 3 = .ok (.aload_n 0, 1) := by decide +kernel
theorem dX10_writeOn_4 : decode cX10_writeOn 4 = .ok (.iconst 0, 1) := by decide +kernel
theorem dX10_writeOn_5 : decode cX10_writeOn 5 = .ok (.putfield 130, 3) := by decide +kernel
theorem dX10_writeOn_8 : decode cX10_writeOn 8 = .ok (.iconst 0, 1) := by decide +kernel
theorem dX10_writeOn_9 : decode cX10_writeOn 9 = .ok (.istore 6, 2) := by decide +kernel
theorem dX10_writeOn_11 : decode cX10_writeOn 11 = .ok (.iload 6, 2) := by decide +kernel
theorem dX10_writeOn_13 : decode cX10_writeOn 13 = .ok (.iload_n 3, 1) := by decide +kernel
theorem dX10_writeOn_14 : decode cX10_writeOn 14 = .ok (.if_icmp .ge 75, 3) := by decide +kernel
theorem dX10_writeOn_17 : decode cX10_writeOn 17 = .ok (.iload 6, 2) := by decide +kernel
theorem dX10_writeOn_19 : decode cX10_writeOn 19 = .ok (.aload_n 0, 1) := by decide +kernel
theorem dX10_writeOn_20 : decode cX10_writeOn 20 = .ok (.getfield 100, 3) := by decide +kernel
theorem dX10_writeOn_23 : decode cX10_writeOn 23 = .ok (.if_icmp .ge 66, 3) := by decide +kernel
theorem dX10_writeOn_26 : decode cX10_writeOn 26 = .ok (.iload 4, 2) := by decide +kernel
theorem dX10_writeOn_28 : decode cX10_writeOn 28 = .ok (.iload 6, 2) := by decide +kernel
theorem dX10_writeOn_30 : decode cX10_writeOn 30 = .ok (.invokestatic 126, 3) := by decide +kernel
theorem dX10_writeOn_33 : decode cX10_writeOn 33 = .ok (.ifCond .ne 40, 3) := by decide +kernel
theorem dX10_writeOn_36 : decode cX10_writeOn 36 = .ok (.aload_n 0, 1) := by decide +kernel
theorem dX10_writeOn_37 : decode cX10_writeOn 37 = .ok (.iload_n 1, 1) := by decide +kernel
theorem dX10_writeOn_38 : decode cX10_writeOn 38 = .ok (.iload_n 2, 1) := by decide +kernel
theorem dX10_writeOn_39 : decode cX10_writeOn 39 = .ok (.aload_n 0, 1) := by decide +kernel
theorem dX10_writeOn_40 : decode cX10_writeOn 40 = .ok (.getfield 28, 3) := by decide +kernel
theorem dX10_writeOn_43 : decode cX10_writeOn 43 = .ok (.iload 6, 2) := by decide +kernel
theorem dX10_writeOn_45 : decode cX10_writeOn 45 = .ok (.iaload, 1) := by decide +kernel
theorem dX10_writeOn_46 : decode cX10_writeOn 46 = .ok (.invokevirtual 133, 3) := by decide +kernel
theorem dX10_writeOn_49 : decode cX10_writeOn 49 = .ok (.ifCond .ne 6, 3) := by decide +kernel
theorem dX10_writeOn_52 : decode cX10_writeOn 52 = .ok (.iload 5, 2) := by decide +kernel
theorem dX10_writeOn_54 : decode cX10_writeOn 54 = .ok (.ireturn, 1) := by decide +kernel
theorem dX10_writeOn_55 : decode cX10_writeOn 55 = .ok (.iload 5, 2) := by decide +kernel
theorem dX10_writeOn_57 : decode cX10_writeOn 57 = .ok (.aload_n 0, 1) := by decide +kernel
theorem dX10_writeOn_58 : decode cX10_writeOn 58 = .ok (.iload_n 1, 1) := by decide +kernel
theorem dX10_writeOn_59 : decode cX10_writeOn 59 = .ok (.iload_n 2, 1) := by decide +kernel
theorem dX10_writeOn_60 : decode cX10_writeOn 60 = .ok (.aload_n 0, 1) := by decide +kernel
theorem dX10_writeOn_61 : decode cX10_writeOn 61 = .ok (.getfield 28, 3) := by decide +kernel
theorem dX10_writeOn_64 : decode cX10_writeOn 64 = .ok (.iload 6, 2) := by decide +kernel
theorem dX10_writeOn_66 : decode cX10_writeOn 66 = .ok (.iaload, 1) := by decide +kernel
theorem dX10_writeOn_67 : decode cX10_writeOn 67 = .ok (.invokevirtual 137, 3) := by decide +kernel
theorem dX10_writeOn_70 : decode cX10_writeOn 70 = .ok (.iadd, 1) := by decide +kernel
theorem dX10_writeOn_71 : decode cX10_writeOn 71 = .ok (.istore 5, 2) := by decide +kernel
theorem dX10_writeOn_73 : decode cX10_writeOn 73 = .ok (.aload_n 0, 1) := by decide +kernel
theorem dX10_writeOn_74 : decode cX10_writeOn 74 = .ok (.dup, 1) := by decide +kernel
theorem dX10_writeOn_75 : decode cX10_writeOn 75 = .ok (.getfield 130, 3) := by decide +kernel
theorem dX10_writeOn_78 : decode cX10_writeOn 78 = .ok (.iconst 1, 1) := by decide +kernel
theorem dX10_writeOn_79 : decode cX10_writeOn 79 = .ok (.iadd, 1) := by decide +kernel
theorem dX10_writeOn_80 : decode cX10_writeOn 80 = .ok (.putfield 130, 3) := by decide +kernel
theorem dX10_writeOn_83 : decode cX10_writeOn 83 = .ok (.iinc 6 1, 3) := by decide +kernel
theorem dX10_writeOn_86 : decode cX10_writeOn 86 = .ok (.goto (-75), 3) := by decide +kernel
theorem dX10_writeOn_89 : decode cX10_writeOn 89 = .ok (.iload 5, 2) := by decide +kernel
theorem dX10_writeOn_91 : decode cX10_writeOn 91 = .ok (.ireturn, 1) := by decide +kernel
theorem dX10_blackOn_0 : decode cX10_blackOn 0 = .ok (.iconst 0, 1) := by decide +kernel
theorem dX10_blackOn_1 : decode cX10_blackOn 1 = .ok (.istore_n 2, 1) := by decide +kernel
theorem dX10_blackOn_2 : decode cX10_blackOn 2 = .ok (.iconst 0, 1) := by decide +kernel
theorem dX10_blackOn_3 : decode cX10_blackOn 3 = .ok (.istore_n 3, 1) := by decide +kernel
theorem dX10_blackOn_4 : decode cX10_blackOn 4 = .ok (.iload_n 3, 1) := by decide +kernel
theorem dX10_blackOn_5 : decode cX10_blackOn 5 = .ok (.bipush 25, 2) := by decide +kernel
theorem dX10_blackOn_7 : decode cX10_blackOn 7 = .ok (.if_icmp .ge 37, 3) := by decide +kernel
theorem dX10_blackOn_10 : decode cX10_blackOn 10 = .ok (.iload_n 2, 1) := by decide +kernel
theorem dX10_blackOn_11 : decode cX10_blackOn 11 = .ok (.aload_n 0, 1) := by decide +kernel
theorem dX10_blackOn_12 : decode cX10_blackOn 12 = .ok (.getfield 16, 3) := by decide +kernel
theorem dX10_blackOn_15 : decode cX10_blackOn 15 = .ok (.bipush 43, 2) := by decide +kernel
theorem dX10_blackOn_17 : decode cX10_blackOn 17 = .ok (.iload_n 1, 1) := by decide +kernel
theorem dX10_blackOn_18 : decode cX10_blackOn 18 = .ok (.imul, 1) := by decide +kernel
theorem dX10_blackOn_19 : decode cX10_blackOn 19 = .ok (.bipush 18, 2) := by decide +kernel
theorem dX10_blackOn_21 : decode cX10_blackOn 21 = .ok (.iadd, 1) := by decide +kernel
theorem dX10_blackOn_22 : decode cX10_blackOn 22 = .ok (.iload_n 3, 1) := by decide +kernel
theorem dX10_blackOn_23 : decode cX10_blackOn 23 = .ok (.iadd, 1) := by decide +kernel
theorem dX10_blackOn_24 : decode cX10_blackOn 24 = .ok (.iaload, 1) := by decide +kernel
theorem dX10_blackOn_25 : decode cX10_blackOn 25 = .ok (.iconst 2, 1) := by decide +kernel
theorem dX10_blackOn_26 : decode cX10_blackOn 26 = .ok (.if_icmp .le 9, 3) := by decide +kernel
theorem dX10_blackOn_29 : decode cX10_blackOn 29 = .ok (.iconst 1, 1) := by decide +kernel
theorem dX10_blackOn_30 : decode cX10_blackOn 30 = .ok (.iload_n 3, 1) := by decide +kernel
theorem dX10_blackOn_31 : decode cX10_blackOn 31 = .ok (.ishl, 1) := by decide +kernel
theorem dX10_blackOn_32 : decode cX10_blackOn 32 = .ok (.goto 4, 3) := by decide +kernel
theorem dX10_blackOn_35 : decode cX10_blackOn 35 = .ok (.iconst 0, 1) := by decide +kernel
theorem dX10_blackOn_36 : decode cX10_blackOn 36 = .ok (.ior, 1) := by decide +kernel
theorem dX10_blackOn_37 : decode cX10_blackOn 37 = .ok (.istore_n 2, 1) := by decide +kernel
theorem dX10_blackOn_38 : decode cX10_blackOn 38 = .ok (.iinc 3 1, 3) := by decide +kernel
theorem dX10_blackOn_41 : decode cX10_blackOn 41 = .ok (.goto (-37), 3) := by decide +kernel
theorem dX10_blackOn_44 : decode cX10_blackOn 44 = .ok (.iload_n 2, 1) := by decide +kernel
theorem dX10_blackOn_45 : decode cX10_blackOn 45 = .ok (.ireturn, 1) := by decide +kernel
theorem dX10_inkOn_0 : decode cX10_inkOn 0 = .ok (.iconst 0, 1) := by decide +kernel
theorem dX10_inkOn_1 : decode cX10_inkOn 1 = .ok (.istore_n 2, 1) := by decide +kernel
theorem dX10_inkOn_2 : decode cX10_inkOn 2 = .ok (.iconst 0, 1) := by decide +kernel
theorem dX10_inkOn_3 : decode cX10_inkOn 3 = .ok (.istore_n 3, 1) := by decide +kernel
theorem dX10_inkOn_4 : decode cX10_inkOn 4 = .ok (.iload_n 3, 1) := by decide +kernel
theorem dX10_inkOn_5 : decode cX10_inkOn 5 = .ok (.bipush 25, 2) := by decide +kernel
theorem dX10_inkOn_7 : decode cX10_inkOn 7 = .ok (.if_icmp .ge 26, 3) := by decide +kernel
theorem dX10_inkOn_10 : decode cX10_inkOn 10 = .ok (.iload_n 2, 1) := by decide +kernel
theorem dX10_inkOn_11 : decode cX10_inkOn 11 = .ok (.aload_n 0, 1) := by decide +kernel
theorem dX10_inkOn_12 : decode cX10_inkOn 12 = .ok (.getfield 16, 3) := by decide +kernel
theorem dX10_inkOn_15 : decode cX10_inkOn 15 = .ok (.bipush 43, 2) := by decide +kernel
theorem dX10_inkOn_17 : decode cX10_inkOn 17 = .ok (.iload_n 1, 1) := by decide +kernel
theorem dX10_inkOn_18 : decode cX10_inkOn 18 = .ok (.imul, 1) := by decide +kernel
theorem dX10_inkOn_19 : decode cX10_inkOn 19 = .ok (.bipush 18, 2) := by decide +kernel
theorem dX10_inkOn_21 : decode cX10_inkOn 21 = .ok (.iadd, 1) := by decide +kernel
theorem dX10_inkOn_22 : decode cX10_inkOn 22 = .ok (.iload_n 3, 1) := by decide +kernel
theorem dX10_inkOn_23 : decode cX10_inkOn 23 = .ok (.iadd, 1) := by decide +kernel
theorem dX10_inkOn_24 : decode cX10_inkOn 24 = .ok (.iaload, 1) := by decide +kernel
theorem dX10_inkOn_25 : decode cX10_inkOn 25 = .ok (.iadd, 1) := by decide +kernel
theorem dX10_inkOn_26 : decode cX10_inkOn 26 = .ok (.istore_n 2, 1) := by decide +kernel
theorem dX10_inkOn_27 : decode cX10_inkOn 27 = .ok (.iinc 3 1, 3) := by decide +kernel
theorem dX10_inkOn_30 : decode cX10_inkOn 30 = .ok (.goto (-26), 3) := by decide +kernel
theorem dX10_inkOn_33 : decode cX10_inkOn 33 = .ok (.iload_n 2, 1) := by decide +kernel
theorem dX10_inkOn_34 : decode cX10_inkOn 34 = .ok (.ireturn, 1) := by decide +kernel
theorem dX10_layTrial_0 : decode cX10_layTrial 0 = .ok (.iconst 0, 1) := by decide +kernel
theorem dX10_layTrial_1 : decode cX10_layTrial 1 = .ok (.istore_n 1, 1) := by decide +kernel
theorem dX10_layTrial_2 : decode cX10_layTrial 2 = .ok (.iload_n 1, 1) := by decide +kernel
theorem dX10_layTrial_3 : decode cX10_layTrial 3 = .ok (.bipush 43, 2) := by decide +kernel
theorem dX10_layTrial_5 : decode cX10_layTrial 5 = .ok (.if_icmp .ge 24, 3) := by decide +kernel
theorem dX10_layTrial_8 : decode cX10_layTrial 8 = .ok (.aload_n 0, 1) := by decide +kernel
theorem dX10_layTrial_9 : decode cX10_layTrial 9 = .ok (.getfield 16, 3) := by decide +kernel
theorem dX10_layTrial_12 : decode cX10_layTrial 12 = .ok (.bipush 43, 2) := by decide +kernel
theorem dX10_layTrial_14 : decode cX10_layTrial 14 = .ok (.iload_n 1, 1) := by decide +kernel
theorem dX10_layTrial_15 : decode cX10_layTrial 15 = .ok (.iadd, 1) := by decide +kernel
theorem dX10_layTrial_16 : decode cX10_layTrial 16 = .ok (.aload_n 0, 1) := by decide +kernel
theorem dX10_layTrial_17 : decode cX10_layTrial 17 = .ok (.getfield 16, 3) := by decide +kernel
theorem dX10_layTrial_20 : decode cX10_layTrial 20 = .ok (.iload_n 1, 1) := by decide +kernel
theorem dX10_layTrial_21 : decode cX10_layTrial 21 = .ok (.iaload, 1) := by decide +kernel
theorem dX10_layTrial_22 : decode cX10_layTrial 22 = .ok (.iastore, 1) := by decide +kernel
theorem dX10_layTrial_23 : decode cX10_layTrial 23 = .ok (.iinc 1 1, 3) := by decide +kernel
theorem dX10_layTrial_26 : decode cX10_layTrial 26 = .ok (.goto (-24), 3) := by decide +kernel
theorem dX10_layTrial_29 : decode cX10_layTrial 29 = .ok (.return_, 1) := by decide +kernel
theorem dX10_stopsAt_0 : decode cX10_stopsAt 0 = .ok (.aload_n 0, 1) := by decide +kernel
theorem dX10_stopsAt_1 : decode cX10_stopsAt 1 = .ok (.invokevirtual 140, 3) := by decide +kernel
theorem dX10_stopsAt_4 : decode cX10_stopsAt 4 = .ok (.aload_n 0, 1) := by decide +kernel
theorem dX10_stopsAt_5 : decode cX10_stopsAt 5 = .ok (.iconst 1, 1) := by decide +kernel
theorem dX10_stopsAt_6 : decode cX10_stopsAt 6 = .ok (.iload_n 1, 1) := by decide +kernel
theorem dX10_stopsAt_7 : decode cX10_stopsAt 7 = .ok (.bipush 8, 2) := by decide +kernel
theorem dX10_stopsAt_9 : decode cX10_stopsAt 9 = .ok (.iconst 0, 1) := by decide +kernel
theorem dX10_stopsAt_10 : decode cX10_stopsAt 10 = .ok (.invokevirtual 143, 3) := by decide +kernel
theorem dX10_stopsAt_13 : decode cX10_stopsAt 13 = .ok (.pop, 1) := by decide +kernel
theorem dX10_stopsAt_14 : decode cX10_stopsAt 14 = .ok (.aload_n 0, 1) := by decide +kernel
theorem dX10_stopsAt_15 : decode cX10_stopsAt 15 = .ok (.getfield 130, 3) := by decide +kernel
theorem dX10_stopsAt_18 : decode cX10_stopsAt 18 = .ok (.aload_n 0, 1) := by decide +kernel
theorem dX10_stopsAt_19 : decode cX10_stopsAt 19 = .ok (.getfield 100, 3) := by decide +kernel
theorem dX10_stopsAt_22 : decode cX10_stopsAt 22 = .ok (.if_icmp .ne 8, 3) := by decide +kernel
theorem dX10_stopsAt_25 : decode cX10_stopsAt 25 = .ok (.bipush (-9), 2) := by decide +kernel
theorem dX10_stopsAt_27 : decode cX10_stopsAt 27 = .ok (.goto 7, 3) := by decide +kernel
theorem dX10_stopsAt_30 : decode cX10_stopsAt 30 = .ok (.aload_n 0, 1) := by decide +kernel
theorem dX10_stopsAt_31 : decode cX10_stopsAt 31 = .ok (.getfield 130, 3) := by decide +kernel
theorem dX10_stopsAt_34 : decode cX10_stopsAt 34 = .ok (.ireturn, 1) := by decide +kernel
theorem dX10_pen_0 : decode cX10_pen 0 = .ok (.aload_n 0, 1) := by decide +kernel
theorem dX10_pen_1 : decode cX10_pen 1 = .ok (.iload_n 1, 1) := by decide +kernel
theorem dX10_pen_2 : decode cX10_pen 2 = .ok (.invokevirtual 115, 3) := by decide +kernel
theorem dX10_pen_5 : decode cX10_pen 5 = .ok (.ifCond .ne 5, 3) := by decide +kernel
theorem dX10_pen_8 : decode cX10_pen 8 = .ok (.iconst (-1), 1) := by decide +kernel
theorem dX10_pen_9 : decode cX10_pen 9 = .ok (.ireturn, 1) := by decide +kernel
theorem dX10_pen_10 : decode cX10_pen 10 = .ok (.iload_n 2, 1) := by decide +kernel
theorem dX10_pen_11 : decode cX10_pen 11 = .ok (.tableswitch 96 0 6 #[41, 48, 55, 61, 71, 78, 90], 41) := by decide +kernel
theorem dX10_pen_52 : decode cX10_pen 52 = .ok (.aload_n 0, 1) := by decide +kernel
theorem dX10_pen_53 : decode cX10_pen 53 = .ok (.getfield 16, 3) := by decide +kernel
theorem dX10_pen_56 : decode cX10_pen 56 = .ok (.iload_n 1, 1) := by decide +kernel
theorem dX10_pen_57 : decode cX10_pen 57 = .ok (.iaload, 1) := by decide +kernel
theorem dX10_pen_58 : decode cX10_pen 58 = .ok (.ireturn, 1) := by decide +kernel
theorem dX10_pen_59 : decode cX10_pen 59 = .ok (.aload_n 0, 1) := by decide +kernel
theorem dX10_pen_60 : decode cX10_pen 60 = .ok (.getfield 7, 3) := by decide +kernel
theorem dX10_pen_63 : decode cX10_pen 63 = .ok (.iload_n 1, 1) := by decide +kernel
theorem dX10_pen_64 : decode cX10_pen 64 = .ok (.iaload, 1) := by decide +kernel
theorem dX10_pen_65 : decode cX10_pen 65 = .ok (.ireturn, 1) := by decide +kernel
theorem dX10_pen_66 : decode cX10_pen 66 = .ok (.aload_n 0, 1) := by decide +kernel
theorem dX10_pen_67 : decode cX10_pen 67 = .ok (.iload_n 1, 1) := by decide +kernel
theorem dX10_pen_68 : decode cX10_pen 68 = .ok (.invokevirtual 147, 3) := by decide +kernel
theorem dX10_pen_71 : decode cX10_pen 71 = .ok (.ireturn, 1) := by decide +kernel
theorem dX10_pen_72 : decode cX10_pen 72 = .ok (.aload_n 0, 1) := by decide +kernel
theorem dX10_pen_73 : decode cX10_pen 73 = .ok (.getfield 16, 3) := by decide +kernel
theorem dX10_pen_76 : decode cX10_pen 76 = .ok (.bipush 12, 2) := by decide +kernel
theorem dX10_pen_78 : decode cX10_pen 78 = .ok (.iload_n 1, 1) := by decide +kernel
theorem dX10_pen_79 : decode cX10_pen 79 = .ok (.iadd, 1) := by decide +kernel
theorem dX10_pen_80 : decode cX10_pen 80 = .ok (.iaload, 1) := by decide +kernel
theorem dX10_pen_81 : decode cX10_pen 81 = .ok (.ireturn, 1) := by decide +kernel
theorem dX10_pen_82 : decode cX10_pen 82 = .ok (.aload_n 0, 1) := by decide +kernel
theorem dX10_pen_83 : decode cX10_pen 83 = .ok (.getfield 13, 3) := by decide +kernel
theorem dX10_pen_86 : decode cX10_pen 86 = .ok (.iload_n 1, 1) := by decide +kernel
theorem dX10_pen_87 : decode cX10_pen 87 = .ok (.iaload, 1) := by decide +kernel
theorem dX10_pen_88 : decode cX10_pen 88 = .ok (.ireturn, 1) := by decide +kernel
theorem dX10_pen_89 : decode cX10_pen 89 = .ok (.aload_n 0, 1) := by decide +kernel
theorem dX10_pen_90 : decode cX10_pen 90 = .ok (.getfield 16, 3) := by decide +kernel
theorem dX10_pen_93 : decode cX10_pen 93 = .ok (.bipush 16, 2) := by decide +kernel
theorem dX10_pen_95 : decode cX10_pen 95 = .ok (.iaload, 1) := by decide +kernel
theorem dX10_pen_96 : decode cX10_pen 96 = .ok (.iload_n 1, 1) := by decide +kernel
theorem dX10_pen_97 : decode cX10_pen 97 = .ok (.ishr, 1) := by decide +kernel
theorem dX10_pen_98 : decode cX10_pen 98 = .ok (.iconst 1, 1) := by decide +kernel
theorem dX10_pen_99 : decode cX10_pen 99 = .ok (.iand, 1) := by decide +kernel
theorem dX10_pen_100 : decode cX10_pen 100 = .ok (.ireturn, 1) := by decide +kernel
theorem dX10_pen_101 : decode cX10_pen 101 = .ok (.aload_n 0, 1) := by decide +kernel
theorem dX10_pen_102 : decode cX10_pen 102 = .ok (.iload_n 1, 1) := by decide +kernel
theorem dX10_pen_103 : decode cX10_pen 103 = .ok (.invokevirtual 150, 3) := by decide +kernel
theorem dX10_pen_106 : decode cX10_pen 106 = .ok (.ireturn, 1) := by decide +kernel
theorem dX10_pen_107 : decode cX10_pen 107 = .ok (.bipush (-2), 2) := by decide +kernel
theorem dX10_pen_109 : decode cX10_pen 109 = .ok (.ireturn, 1) := by decide +kernel
theorem dX10_dot_0 : decode cX10_dot 0 = .ok (.iload_n 1, 1) := by decide +kernel
theorem dX10_dot_1 : decode cX10_dot 1 = .ok (.i2l, 1) := by decide +kernel
theorem dX10_dot_2 : decode cX10_dot 2 = .ok (.lconst 0, 1) := by decide +kernel
theorem dX10_dot_3 : decode cX10_dot 3 = .ok (.ldc2_w 153, 3) := by decide +kernel
theorem dX10_dot_6 : decode cX10_dot 6 = .ok (.invokestatic 52, 3) := by decide +kernel
theorem dX10_dot_9 : decode cX10_dot 9 = .ok (.ifCond .eq 15, 3) := by decide +kernel
theorem dX10_dot_12 : decode cX10_dot 12 = .ok (.aload_n 0, 1) := by decide +kernel
theorem dX10_dot_13 : decode cX10_dot 13 = .ok (.getfield 16, 3) := by decide +kernel
theorem dX10_dot_16 : decode cX10_dot 16 = .ok (.bipush 18, 2) := by decide +kernel
theorem dX10_dot_18 : decode cX10_dot 18 = .ok (.iload_n 1, 1) := by decide +kernel
theorem dX10_dot_19 : decode cX10_dot 19 = .ok (.iadd, 1) := by decide +kernel
theorem dX10_dot_20 : decode cX10_dot 20 = .ok (.iaload, 1) := by decide +kernel
theorem dX10_dot_21 : decode cX10_dot 21 = .ok (.goto 4, 3) := by decide +kernel
theorem dX10_dot_24 : decode cX10_dot 24 = .ok (.iconst (-1), 1) := by decide +kernel
theorem dX10_dot_25 : decode cX10_dot 25 = .ok (.ireturn, 1) := by decide +kernel
theorem dX10_thick_0 : decode cX10_thick 0 = .ok (.aload_n 0, 1) := by decide +kernel
theorem dX10_thick_1 : decode cX10_thick 1 = .ok (.iload_n 1, 1) := by decide +kernel
theorem dX10_thick_2 : decode cX10_thick 2 = .ok (.invokevirtual 115, 3) := by decide +kernel
theorem dX10_thick_5 : decode cX10_thick 5 = .ok (.ifCond .ne 5, 3) := by decide +kernel
theorem dX10_thick_8 : decode cX10_thick 8 = .ok (.iconst (-1), 1) := by decide +kernel
theorem dX10_thick_9 : decode cX10_thick 9 = .ok (.ireturn, 1) := by decide +kernel
theorem dX10_thick_10 : decode cX10_thick 10 = .ok (.iload_n 2, 1) := by decide +kernel
theorem dX10_thick_11 : decode cX10_thick 11 = .ok (.i2l, 1) := by decide +kernel
theorem dX10_thick_12 : decode cX10_thick 12 = .ok (.lconst 0, 1) := by decide +kernel
theorem dX10_thick_13 : decode cX10_thick 13 = .ok (.ldc2_w 98, 3) := by decide +kernel
theorem dX10_thick_16 : decode cX10_thick 16 = .ok (.invokestatic 52, 3) := by decide +kernel
theorem dX10_thick_19 : decode cX10_thick 19 = .ok (.ifCond .eq 13, 3) := by decide +kernel
theorem dX10_thick_22 : decode cX10_thick 22 = .ok (.aload_n 0, 1) := by decide +kernel
theorem dX10_thick_23 : decode cX10_thick 23 = .ok (.iconst 0, 1) := by decide +kernel
theorem dX10_thick_24 : decode cX10_thick 24 = .ok (.iload_n 1, 1) := by decide +kernel
theorem dX10_thick_25 : decode cX10_thick 25 = .ok (.iload_n 2, 1) := by decide +kernel
theorem dX10_thick_26 : decode cX10_thick 26 = .ok (.invokevirtual 122, 3) := by decide +kernel
theorem dX10_thick_29 : decode cX10_thick 29 = .ok (.goto 5, 3) := by decide +kernel
theorem dX10_thick_32 : decode cX10_thick 32 = .ok (.bipush (-2), 2) := by decide +kernel
theorem dX10_thick_34 : decode cX10_thick 34 = .ok (.ireturn, 1) := by decide +kernel
theorem dX10_keepAct_0 : decode cX10_keepAct 0 = .ok (.iconst 0, 1) := by decide +kernel
theorem dX10_keepAct_1 : decode cX10_keepAct 1 = .ok (.istore_n 1, 1) := by decide +kernel
theorem dX10_keepAct_2 : decode cX10_keepAct 2 = .ok (.iload_n 1, 1) := by decide +kernel
theorem dX10_keepAct_3 : decode cX10_keepAct 3 = .ok (.bipush 43, 2) := by decide +kernel
theorem dX10_keepAct_5 : decode cX10_keepAct 5 = .ok (.if_icmp .ge 29, 3) := by decide +kernel
theorem dX10_keepAct_8 : decode cX10_keepAct 8 = .ok (.aload_n 0, 1) := by decide +kernel
theorem dX10_keepAct_9 : decode cX10_keepAct 9 = .ok (.getfield 31, 3) := by decide +kernel
theorem dX10_keepAct_12 : decode cX10_keepAct 12 = .ok (.bipush 43, 2) := by decide +kernel
theorem dX10_keepAct_14 : decode cX10_keepAct 14 = .ok (.aload_n 0, 1) := by decide +kernel
theorem dX10_keepAct_15 : decode cX10_keepAct 15 = .ok (.getfield 155, 3) := by decide +kernel
theorem dX10_keepAct_18 : decode cX10_keepAct 18 = .ok (.imul, 1) := by decide +kernel
theorem dX10_keepAct_19 : decode cX10_keepAct 19 = .ok (.iload_n 1, 1) := by decide +kernel
theorem dX10_keepAct_20 : decode cX10_keepAct 20 = .ok (.iadd, 1) := by decide +kernel
theorem dX10_keepAct_21 : decode cX10_keepAct 21 = .ok (.aload_n 0, 1) := by decide +kernel
theorem dX10_keepAct_22 : decode cX10_keepAct 22 = .ok (.getfield 16, 3) := by decide +kernel
theorem dX10_keepAct_25 : decode cX10_keepAct 25 = .ok (.iload_n 1, 1) := by decide +kernel
theorem dX10_keepAct_26 : decode cX10_keepAct 26 = .ok (.iaload, 1) := by decide +kernel
theorem dX10_keepAct_27 : decode cX10_keepAct 27 = .ok (.iastore, 1) := by decide +kernel
theorem dX10_keepAct_28 : decode cX10_keepAct 28 = .ok (.iinc 1 1, 3) := by decide +kernel
theorem dX10_keepAct_31 : decode cX10_keepAct 31 = .ok (.goto (-29), 3) := by decide +kernel
theorem dX10_keepAct_34 : decode cX10_keepAct 34 = .ok (.aload_n 0, 1) := by decide +kernel
theorem dX10_keepAct_35 : decode cX10_keepAct 35 = .ok (.aload_n 0, 1) := by decide +kernel
theorem dX10_keepAct_36 : decode cX10_keepAct 36 = .ok (.getfield 155, 3) := by decide +kernel
theorem dX10_keepAct_39 : decode cX10_keepAct 39 = .ok (.iconst 1, 1) := by decide +kernel
theorem dX10_keepAct_40 : decode cX10_keepAct 40 = .ok (.iadd, 1) := by decide +kernel
theorem dX10_keepAct_41 : decode cX10_keepAct 41 = .ok (.bipush 14, 2) := by decide +kernel
theorem dX10_keepAct_43 : decode cX10_keepAct 43 = .ok (.irem, 1) := by decide +kernel
theorem dX10_keepAct_44 : decode cX10_keepAct 44 = .ok (.putfield 155, 3) := by decide +kernel
theorem dX10_keepAct_47 : decode cX10_keepAct 47 = .ok (.aload_n 0, 1) := by decide +kernel
theorem dX10_keepAct_48 : decode cX10_keepAct 48 = .ok (.aload_n 0, 1) := by decide +kernel
theorem dX10_keepAct_49 : decode cX10_keepAct 49 = .ok (.getfield 87, 3) := by decide +kernel
theorem dX10_keepAct_52 : decode cX10_keepAct 52 = .ok (.bipush 14, 2) := by decide +kernel
theorem dX10_keepAct_54 : decode cX10_keepAct 54 = .ok (.if_icmp .ge 12, 3) := by decide +kernel
theorem dX10_keepAct_57 : decode cX10_keepAct 57 = .ok (.aload_n 0, 1) := by decide +kernel
theorem dX10_keepAct_58 : decode cX10_keepAct 58 = .ok (.getfield 87, 3) := by decide +kernel
theorem dX10_keepAct_61 : decode cX10_keepAct 61 = .ok (.iconst 1, 1) := by decide +kernel
theorem dX10_keepAct_62 : decode cX10_keepAct 62 = .ok (.iadd, 1) := by decide +kernel
theorem dX10_keepAct_63 : decode cX10_keepAct 63 = .ok (.goto 5, 3) := by decide +kernel
theorem dX10_keepAct_66 : decode cX10_keepAct 66 = .ok (.bipush 14, 2) := by decide +kernel
theorem dX10_keepAct_68 : decode cX10_keepAct 68 = .ok (.putfield 87, 3) := by decide +kernel
theorem dX10_keepAct_71 : decode cX10_keepAct 71 = .ok (.return_, 1) := by decide +kernel
theorem dX10_step_0 : decode cX10_step 0 = .ok (.aload_n 0, 1) := by decide +kernel
theorem dX10_step_1 : decode cX10_step 1 = .ok (.iload_n 1, 1) := by decide +kernel
theorem dX10_step_2 : decode cX10_step 2 = .ok (.invokevirtual 115, 3) := by decide +kernel
theorem dX10_step_5 : decode cX10_step 5 = .ok (.ifCond .ne 5, 3) := by decide +kernel
theorem dX10_step_8 : decode cX10_step 8 = .ok (.iconst (-1), 1) := by decide +kernel
theorem dX10_step_9 : decode cX10_step 9 = .ok (.ireturn, 1) := by decide +kernel
theorem dX10_step_10 : decode cX10_step 10 = .ok (.iload_n 2, 1) := by decide +kernel
theorem dX10_step_11 : decode cX10_step 11 = .ok (.i2l, 1) := by decide +kernel
theorem dX10_step_12 : decode cX10_step 12 = .ok (.lconst 0, 1) := by decide +kernel
theorem dX10_step_13 : decode cX10_step 13 = .ok (.ldc2_w 98, 3) := by decide +kernel
theorem dX10_step_16 : decode cX10_step 16 = .ok (.invokestatic 52, 3) := by decide +kernel
theorem dX10_step_19 : decode cX10_step 19 = .ok (.ifCond .ne 6, 3) := by decide +kernel
theorem dX10_step_22 : decode cX10_step 22 = .ok (.bipush (-2), 2) := by decide +kernel
theorem dX10_step_24 : decode cX10_step 24 = .ok (.ireturn, 1) := by decide +kernel
theorem dX10_step_25 : decode cX10_step 25 = .ok (.aload_n 0, 1) := by decide +kernel
theorem dX10_step_26 : decode cX10_step 26 = .ok (.iconst 0, 1) := by decide +kernel
theorem dX10_step_27 : decode cX10_step 27 = .ok (.iload_n 1, 1) := by decide +kernel
theorem dX10_step_28 : decode cX10_step 28 = .ok (.iload_n 2, 1) := by decide +kernel
theorem dX10_step_29 : decode cX10_step 29 = .ok (.invokevirtual 133, 3) := by decide +kernel
theorem dX10_step_32 : decode cX10_step 32 = .ok (.ifCond .ne 6, 3) := by decide +kernel
theorem dX10_step_35 : decode cX10_step 35 = .ok (.bipush (-3), 2) := by decide +kernel
theorem dX10_step_37 : decode cX10_step 37 = .ok (.ireturn, 1) := by decide +kernel
theorem dX10_step_38 : decode cX10_step 38 = .ok (.aload_n 0, 1) := by decide +kernel
theorem dX10_step_39 : decode cX10_step 39 = .ok (.invokevirtual 158, 3) := by decide +kernel
theorem dX10_step_42 : decode cX10_step 42 = .ok (.aload_n 0, 1) := by decide +kernel
theorem dX10_step_43 : decode cX10_step 43 = .ok (.iconst 0, 1) := by decide +kernel
theorem dX10_step_44 : decode cX10_step 44 = .ok (.iload_n 1, 1) := by decide +kernel
theorem dX10_step_45 : decode cX10_step 45 = .ok (.iload_n 2, 1) := by decide +kernel
theorem dX10_step_46 : decode cX10_step 46 = .ok (.invokevirtual 137, 3) := by decide +kernel
theorem dX10_step_49 : decode cX10_step 49 = .ok (.ireturn, 1) := by decide +kernel
theorem dX10_put_0 : decode cX10_put 0 = .ok (.aload_n 0, 1) := by decide +kernel
theorem dX10_put_1 : decode cX10_put 1 = .ok (.iload_n 1, 1) := by decide +kernel
theorem dX10_put_2 : decode cX10_put 2 = .ok (.invokevirtual 115, 3) := by decide +kernel
theorem dX10_put_5 : decode cX10_put 5 = .ok (.ifCond .ne 5, 3) := by decide +kernel
theorem dX10_put_8 : decode cX10_put 8 = .ok (.iconst (-1), 1) := by decide +kernel
theorem dX10_put_9 : decode cX10_put 9 = .ok (.ireturn, 1) := by decide +kernel
theorem dX10_put_10 : decode cX10_put 10 = .ok (.aload_n 0, 1) := by decide +kernel
theorem dX10_put_11 : decode cX10_put 11 = .ok (.invokevirtual 158, 3) := by decide +kernel
theorem dX10_put_14 : decode cX10_put 14 = .ok (.aload_n 0, 1) := by decide +kernel
theorem dX10_put_15 : decode cX10_put 15 = .ok (.getfield 16, 3) := by decide +kernel
theorem dX10_put_18 : decode cX10_put 18 = .ok (.bipush 16, 2) := by decide +kernel
theorem dX10_put_20 : decode cX10_put 20 = .ok (.dup2, 1) := by decide +kernel
theorem dX10_put_21 : decode cX10_put 21 = .ok (.iaload, 1) := by decide +kernel
theorem dX10_put_22 : decode cX10_put 22 = .ok (.iconst 1, 1) := by decide +kernel
theorem dX10_put_23 : decode cX10_put 23 = .ok (.iload_n 1, 1) := by decide +kernel
theorem dX10_put_24 : decode cX10_put 24 = .ok (.ishl, 1) := by decide +kernel
theorem dX10_put_25 : decode cX10_put 25 = .ok (.ixor, 1) := by decide +kernel
theorem dX10_put_26 : decode cX10_put 26 = .ok (.iastore, 1) := by decide +kernel
theorem dX10_put_27 : decode cX10_put 27 = .ok (.aload_n 0, 1) := by decide +kernel
theorem dX10_put_28 : decode cX10_put 28 = .ok (.getfield 16, 3) := by decide +kernel
theorem dX10_put_31 : decode cX10_put 31 = .ok (.bipush 16, 2) := by decide +kernel
theorem dX10_put_33 : decode cX10_put 33 = .ok (.iaload, 1) := by decide +kernel
theorem dX10_put_34 : decode cX10_put 34 = .ok (.iload_n 1, 1) := by decide +kernel
theorem dX10_put_35 : decode cX10_put 35 = .ok (.ishr, 1) := by decide +kernel
theorem dX10_put_36 : decode cX10_put 36 = .ok (.iconst 1, 1) := by decide +kernel
theorem dX10_put_37 : decode cX10_put 37 = .ok (.iand, 1) := by decide +kernel
theorem dX10_put_38 : decode cX10_put 38 = .ok (.ireturn, 1) := by decide +kernel
theorem dX10_dip_0 : decode cX10_dip 0 = .ok (.aload_n 0, 1) := by decide +kernel
theorem dX10_dip_1 : decode cX10_dip 1 = .ok (.iload_n 1, 1) := by decide +kernel
theorem dX10_dip_2 : decode cX10_dip 2 = .ok (.invokevirtual 115, 3) := by decide +kernel
theorem dX10_dip_5 : decode cX10_dip 5 = .ok (.ifCond .ne 5, 3) := by decide +kernel
theorem dX10_dip_8 : decode cX10_dip 8 = .ok (.iconst (-1), 1) := by decide +kernel
theorem dX10_dip_9 : decode cX10_dip 9 = .ok (.ireturn, 1) := by decide +kernel
theorem dX10_dip_10 : decode cX10_dip 10 = .ok (.aload_n 0, 1) := by decide +kernel
theorem dX10_dip_11 : decode cX10_dip 11 = .ok (.getfield 16, 3) := by decide +kernel
theorem dX10_dip_14 : decode cX10_dip 14 = .ok (.bipush 12, 2) := by decide +kernel
theorem dX10_dip_16 : decode cX10_dip 16 = .ok (.iload_n 1, 1) := by decide +kernel
theorem dX10_dip_17 : decode cX10_dip 17 = .ok (.iadd, 1) := by decide +kernel
theorem dX10_dip_18 : decode cX10_dip 18 = .ok (.iaload, 1) := by decide +kernel
theorem dX10_dip_19 : decode cX10_dip 19 = .ok (.aload_n 0, 1) := by decide +kernel
theorem dX10_dip_20 : decode cX10_dip 20 = .ok (.getfield 13, 3) := by decide +kernel
theorem dX10_dip_23 : decode cX10_dip 23 = .ok (.iload_n 1, 1) := by decide +kernel
theorem dX10_dip_24 : decode cX10_dip 24 = .ok (.iaload, 1) := by decide +kernel
theorem dX10_dip_25 : decode cX10_dip 25 = .ok (.if_icmp .ne 6, 3) := by decide +kernel
theorem dX10_dip_28 : decode cX10_dip 28 = .ok (.bipush (-3), 2) := by decide +kernel
theorem dX10_dip_30 : decode cX10_dip 30 = .ok (.ireturn, 1) := by decide +kernel
theorem dX10_dip_31 : decode cX10_dip 31 = .ok (.aload_n 0, 1) := by decide +kernel
theorem dX10_dip_32 : decode cX10_dip 32 = .ok (.invokevirtual 158, 3) := by decide +kernel
theorem dX10_dip_35 : decode cX10_dip 35 = .ok (.aload_n 0, 1) := by decide +kernel
theorem dX10_dip_36 : decode cX10_dip 36 = .ok (.getfield 13, 3) := by decide +kernel
theorem dX10_dip_39 : decode cX10_dip 39 = .ok (.iload_n 1, 1) := by decide +kernel
theorem dX10_dip_40 : decode cX10_dip 40 = .ok (.iaload, 1) := by decide +kernel
theorem dX10_dip_41 : decode cX10_dip 41 = .ok (.aload_n 0, 1) := by decide +kernel
theorem dX10_dip_42 : decode cX10_dip 42 = .ok (.getfield 16, 3) := by decide +kernel
theorem dX10_dip_45 : decode cX10_dip 45 = .ok (.bipush 12, 2) := by decide +kernel
theorem dX10_dip_47 : decode cX10_dip 47 = .ok (.iload_n 1, 1) := by decide +kernel
theorem dX10_dip_48 : decode cX10_dip 48 = .ok (.iadd, 1) := by decide +kernel
theorem dX10_dip_49 : decode cX10_dip 49 = .ok (.iaload, 1) := by decide +kernel
theorem dX10_dip_50 : decode cX10_dip 50 = .ok (.isub, 1) := by decide +kernel
theorem dX10_dip_51 : decode cX10_dip 51 = .ok (.istore_n 2, 1) := by decide +kernel
theorem dX10_dip_52 : decode cX10_dip 52 = .ok (.aload_n 0, 1) := by decide +kernel
theorem dX10_dip_53 : decode cX10_dip 53 = .ok (.getfield 16, 3) := by decide +kernel
theorem dX10_dip_56 : decode cX10_dip 56 = .ok (.bipush 12, 2) := by decide +kernel
theorem dX10_dip_58 : decode cX10_dip 58 = .ok (.iload_n 1, 1) := by decide +kernel
theorem dX10_dip_59 : decode cX10_dip 59 = .ok (.iadd, 1) := by decide +kernel
theorem dX10_dip_60 : decode cX10_dip 60 = .ok (.aload_n 0, 1) := by decide +kernel
theorem dX10_dip_61 : decode cX10_dip 61 = .ok (.getfield 13, 3) := by decide +kernel
theorem dX10_dip_64 : decode cX10_dip 64 = .ok (.iload_n 1, 1) := by decide +kernel
theorem dX10_dip_65 : decode cX10_dip 65 = .ok (.iaload, 1) := by decide +kernel
theorem dX10_dip_66 : decode cX10_dip 66 = .ok (.iastore, 1) := by decide +kernel
theorem dX10_dip_67 : decode cX10_dip 67 = .ok (.iload_n 2, 1) := by decide +kernel
theorem dX10_dip_68 : decode cX10_dip 68 = .ok (.ireturn, 1) := by decide +kernel
theorem dX10_turn_0 : decode cX10_turn 0 = .ok (.aload_n 0, 1) := by decide +kernel
theorem dX10_turn_1 : decode cX10_turn 1 = .ok (.iload_n 1, 1) := by decide +kernel
theorem dX10_turn_2 : decode cX10_turn 2 = .ok (.invokevirtual 115, 3) := by decide +kernel
theorem dX10_turn_5 : decode cX10_turn 5 = .ok (.ifCond .ne 5, 3) := by decide +kernel
theorem dX10_turn_8 : decode cX10_turn 8 = .ok (.iconst (-1), 1) := by decide +kernel
theorem dX10_turn_9 : decode cX10_turn 9 = .ok (.ireturn, 1) := by decide +kernel
theorem dX10_turn_10 : decode cX10_turn 10 = .ok (.aload_n 0, 1) := by decide +kernel
theorem dX10_turn_11 : decode cX10_turn 11 = .ok (.invokevirtual 158, 3) := by decide +kernel
theorem dX10_turn_14 : decode cX10_turn 14 = .ok (.aload_n 0, 1) := by decide +kernel
theorem dX10_turn_15 : decode cX10_turn 15 = .ok (.iconst 0, 1) := by decide +kernel
theorem dX10_turn_16 : decode cX10_turn 16 = .ok (.iload_n 1, 1) := by decide +kernel
theorem dX10_turn_17 : decode cX10_turn 17 = .ok (.invokevirtual 161, 3) := by decide +kernel
theorem dX10_turn_20 : decode cX10_turn 20 = .ok (.aload_n 0, 1) := by decide +kernel
theorem dX10_turn_21 : decode cX10_turn 21 = .ok (.iload_n 1, 1) := by decide +kernel
theorem dX10_turn_22 : decode cX10_turn 22 = .ok (.invokevirtual 147, 3) := by decide +kernel
theorem dX10_turn_25 : decode cX10_turn 25 = .ok (.ireturn, 1) := by decide +kernel
theorem dX10_blot_0 : decode cX10_blot 0 = .ok (.iload_n 1, 1) := by decide +kernel
theorem dX10_blot_1 : decode cX10_blot 1 = .ok (.i2l, 1) := by decide +kernel
theorem dX10_blot_2 : decode cX10_blot 2 = .ok (.lconst 0, 1) := by decide +kernel
theorem dX10_blot_3 : decode cX10_blot 3 = .ok (.ldc2_w 153, 3) := by decide +kernel
theorem dX10_blot_6 : decode cX10_blot 6 = .ok (.invokestatic 52, 3) := by decide +kernel
theorem dX10_blot_9 : decode cX10_blot 9 = .ok (.ifCond .ne 5, 3) := by decide +kernel
theorem dX10_blot_12 : decode cX10_blot 12 = .ok (.iconst (-1), 1) := by decide +kernel
theorem dX10_blot_13 : decode cX10_blot 13 = .ok (.ireturn, 1) := by decide +kernel
theorem dX10_blot_14 : decode cX10_blot 14 = .ok (.aload_n 0, 1) := by decide +kernel
theorem dX10_blot_15 : decode cX10_blot 15 = .ok (.getfield 16, 3) := by decide +kernel
theorem dX10_blot_18 : decode cX10_blot 18 = .ok (.bipush 18, 2) := by decide +kernel
theorem dX10_blot_20 : decode cX10_blot 20 = .ok (.iload_n 1, 1) := by decide +kernel
theorem dX10_blot_21 : decode cX10_blot 21 = .ok (.iadd, 1) := by decide +kernel
theorem dX10_blot_22 : decode cX10_blot 22 = .ok (.iaload, 1) := by decide +kernel
theorem dX10_blot_23 : decode cX10_blot 23 = .ok (.ifCond .ne 6, 3) := by decide +kernel
theorem dX10_blot_26 : decode cX10_blot 26 = .ok (.bipush (-3), 2) := by decide +kernel
theorem dX10_blot_28 : decode cX10_blot 28 = .ok (.ireturn, 1) := by decide +kernel
theorem dX10_blot_29 : decode cX10_blot 29 = .ok (.aload_n 0, 1) := by decide +kernel
theorem dX10_blot_30 : decode cX10_blot 30 = .ok (.invokevirtual 158, 3) := by decide +kernel
theorem dX10_blot_33 : decode cX10_blot 33 = .ok (.aload_n 0, 1) := by decide +kernel
theorem dX10_blot_34 : decode cX10_blot 34 = .ok (.getfield 16, 3) := by decide +kernel
theorem dX10_blot_37 : decode cX10_blot 37 = .ok (.bipush 18, 2) := by decide +kernel
theorem dX10_blot_39 : decode cX10_blot 39 = .ok (.iload_n 1, 1) := by decide +kernel
theorem dX10_blot_40 : decode cX10_blot 40 = .ok (.iadd, 1) := by decide +kernel
theorem dX10_blot_41 : decode cX10_blot 41 = .ok (.iaload, 1) := by decide +kernel
theorem dX10_blot_42 : decode cX10_blot 42 = .ok (.istore_n 2, 1) := by decide +kernel
theorem dX10_blot_43 : decode cX10_blot 43 = .ok (.aload_n 0, 1) := by decide +kernel
theorem dX10_blot_44 : decode cX10_blot 44 = .ok (.getfield 16, 3) := by decide +kernel
theorem dX10_blot_47 : decode cX10_blot 47 = .ok (.bipush 18, 2) := by decide +kernel
theorem dX10_blot_49 : decode cX10_blot 49 = .ok (.iload_n 1, 1) := by decide +kernel
theorem dX10_blot_50 : decode cX10_blot 50 = .ok (.iadd, 1) := by decide +kernel
theorem dX10_blot_51 : decode cX10_blot 51 = .ok (.iconst 0, 1) := by decide +kernel
theorem dX10_blot_52 : decode cX10_blot 52 = .ok (.iastore, 1) := by decide +kernel
theorem dX10_blot_53 : decode cX10_blot 53 = .ok (.iload_n 2, 1) := by decide +kernel
theorem dX10_blot_54 : decode cX10_blot 54 = .ok (.ireturn, 1) := by decide +kernel
theorem dX10_undo_0 : decode cX10_undo 0 = .ok (.aload_n 0, 1) := by decide +kernel
theorem dX10_undo_1 : decode cX10_undo 1 = .ok (.getfield 87, 3) := by decide +kernel
theorem dX10_undo_4 : decode cX10_undo 4 = .ok (.ifCond .ne 6, 3) := by decide +kernel
theorem dX10_undo_7 : decode cX10_undo 7 = .ok (.bipush (-3), 2) := by decide +kernel
theorem dX10_undo_9 : decode cX10_undo 9 = .ok (.ireturn, 1) := by decide +kernel
theorem dX10_undo_10 : decode cX10_undo 10 = .ok (.aload_n 0, 1) := by decide +kernel
theorem dX10_undo_11 : decode cX10_undo 11 = .ok (.dup, 1) := by decide +kernel
theorem dX10_undo_12 : decode cX10_undo 12 = .ok (.getfield 87, 3) := by decide +kernel
theorem dX10_undo_15 : decode cX10_undo 15 = .ok (.iconst 1, 1) := by decide +kernel
theorem dX10_undo_16 : decode cX10_undo 16 = .ok (.isub, 1) := by decide +kernel
theorem dX10_undo_17 : decode cX10_undo 17 = .ok (.putfield 87, 3) := by decide +kernel
theorem dX10_undo_20 : decode cX10_undo 20 = .ok (.aload_n 0, 1) := by decide +kernel
theorem dX10_undo_21 : decode cX10_undo 21 = .ok (.aload_n 0, 1) := by decide +kernel
theorem dX10_undo_22 : decode cX10_undo 22 = .ok (.getfield 155, 3) := by decide +kernel
theorem dX10_undo_25 : decode cX10_undo 25 = .ok (.bipush 13, 2) := by decide +kernel
theorem dX10_undo_27 : decode cX10_undo 27 = .ok (.iadd, 1) := by decide +kernel
theorem dX10_undo_28 : decode cX10_undo 28 = .ok (.bipush 14, 2) := by decide +kernel
theorem dX10_undo_30 : decode cX10_undo 30 = .ok (.irem, 1) := by decide +kernel
theorem dX10_undo_31 : decode cX10_undo 31 = .ok (.putfield 155, 3) := by decide +kernel
theorem dX10_undo_34 : decode cX10_undo 34 = .ok (.iconst 0, 1) := by decide +kernel
theorem dX10_undo_35 : decode cX10_undo 35 = .ok (.istore_n 1, 1) := by decide +kernel
theorem dX10_undo_36 : decode cX10_undo 36 = .ok (.iload_n 1, 1) := by decide +kernel
theorem dX10_undo_37 : decode cX10_undo 37 = .ok (.bipush 43, 2) := by decide +kernel
theorem dX10_undo_39 : decode cX10_undo 39 = .ok (.if_icmp .ge 29, 3) := by decide +kernel
theorem dX10_undo_42 : decode cX10_undo 42 = .ok (.aload_n 0, 1) := by decide +kernel
theorem dX10_undo_43 : decode cX10_undo 43 = .ok (.getfield 16, 3) := by decide +kernel
theorem dX10_undo_46 : decode cX10_undo 46 = .ok (.iload_n 1, 1) := by decide +kernel
theorem dX10_undo_47 : decode cX10_undo 47 = .ok (.aload_n 0, 1) := by decide +kernel
theorem dX10_undo_48 : decode cX10_undo 48 = .ok (.getfield 31, 3) := by decide +kernel
theorem dX10_undo_51 : decode cX10_undo 51 = .ok (.bipush 43, 2) := by decide +kernel
theorem dX10_undo_53 : decode cX10_undo 53 = .ok (.aload_n 0, 1) := by decide +kernel
theorem dX10_undo_54 : decode cX10_undo 54 = .ok (.getfield 155, 3) := by decide +kernel
theorem dX10_undo_57 : decode cX10_undo 57 = .ok (.imul, 1) := by decide +kernel
theorem dX10_undo_58 : decode cX10_undo 58 = .ok (.iload_n 1, 1) := by decide +kernel
theorem dX10_undo_59 : decode cX10_undo 59 = .ok (.iadd, 1) := by decide +kernel
theorem dX10_undo_60 : decode cX10_undo 60 = .ok (.iaload, 1) := by decide +kernel
theorem dX10_undo_61 : decode cX10_undo 61 = .ok (.iastore, 1) := by decide +kernel
theorem dX10_undo_62 : decode cX10_undo 62 = .ok (.iinc 1 1, 3) := by decide +kernel
theorem dX10_undo_65 : decode cX10_undo 65 = .ok (.goto (-29), 3) := by decide +kernel
theorem dX10_undo_68 : decode cX10_undo 68 = .ok (.aload_n 0, 1) := by decide +kernel
theorem dX10_undo_69 : decode cX10_undo 69 = .ok (.getfield 87, 3) := by decide +kernel
theorem dX10_undo_72 : decode cX10_undo 72 = .ok (.ireturn, 1) := by decide +kernel
theorem dX10_behind_0 : decode cX10_behind 0 = .ok (.aload_n 0, 1) := by decide +kernel
theorem dX10_behind_1 : decode cX10_behind 1 = .ok (.iload_n 1, 1) := by decide +kernel
theorem dX10_behind_2 : decode cX10_behind 2 = .ok (.invokevirtual 115, 3) := by decide +kernel
theorem dX10_behind_5 : decode cX10_behind 5 = .ok (.ifCond .ne 5, 3) := by decide +kernel
theorem dX10_behind_8 : decode cX10_behind 8 = .ok (.iconst (-1), 1) := by decide +kernel
theorem dX10_behind_9 : decode cX10_behind 9 = .ok (.ireturn, 1) := by decide +kernel
theorem dX10_behind_10 : decode cX10_behind 10 = .ok (.iload_n 2, 1) := by decide +kernel
theorem dX10_behind_11 : decode cX10_behind 11 = .ok (.i2l, 1) := by decide +kernel
theorem dX10_behind_12 : decode cX10_behind 12 = .ok (.lconst 0, 1) := by decide +kernel
theorem dX10_behind_13 : decode cX10_behind 13 = .ok (.ldc2_w 92, 3) := by decide +kernel
theorem dX10_behind_16 : decode cX10_behind 16 = .ok (.invokestatic 52, 3) := by decide +kernel
theorem dX10_behind_19 : decode cX10_behind 19 = .ok (.ifCond .eq 15, 3) := by decide +kernel
theorem dX10_behind_22 : decode cX10_behind 22 = .ok (.iload_n 3, 1) := by decide +kernel
theorem dX10_behind_23 : decode cX10_behind 23 = .ok (.i2l, 1) := by decide +kernel
theorem dX10_behind_24 : decode cX10_behind 24 = .ok (.lconst 0, 1) := by decide +kernel
theorem dX10_behind_25 : decode cX10_behind 25 = .ok (.ldc2_w 165, 3) := by decide +kernel
theorem dX10_behind_28 : decode cX10_behind 28 = .ok (.invokestatic 52, 3) := by decide +kernel
theorem dX10_behind_31 : decode cX10_behind 31 = .ok (.ifCond .ne 6, 3) := by decide +kernel
theorem dX10_behind_34 : decode cX10_behind 34 = .ok (.bipush (-2), 2) := by decide +kernel
theorem dX10_behind_36 : decode cX10_behind 36 = .ok (.ireturn, 1) := by decide +kernel
theorem dX10_behind_37 : decode cX10_behind 37 = .ok (.aload_n 0, 1) := by decide +kernel
theorem dX10_behind_38 : decode cX10_behind 38 = .ok (.invokevirtual 140, 3) := by decide +kernel
theorem dX10_behind_41 : decode cX10_behind 41 = .ok (.aload_n 0, 1) := by decide +kernel
theorem dX10_behind_42 : decode cX10_behind 42 = .ok (.iconst 1, 1) := by decide +kernel
theorem dX10_behind_43 : decode cX10_behind 43 = .ok (.iload_n 1, 1) := by decide +kernel
theorem dX10_behind_44 : decode cX10_behind 44 = .ok (.iload_n 2, 1) := by decide +kernel
theorem dX10_behind_45 : decode cX10_behind 45 = .ok (.iconst 0, 1) := by decide +kernel
theorem dX10_behind_46 : decode cX10_behind 46 = .ok (.invokevirtual 143, 3) := by decide +kernel
theorem dX10_behind_49 : decode cX10_behind 49 = .ok (.istore 4, 2) := by decide +kernel
theorem dX10_behind_51 : decode cX10_behind 51 = .ok (.iload_n 3, 1) := by decide +kernel
theorem dX10_behind_52 : decode cX10_behind 52 = .ok (.ifCond .ne 15, 3) := by decide +kernel
theorem dX10_behind_55 : decode cX10_behind 55 = .ok (.aload_n 0, 1) := by decide +kernel
theorem dX10_behind_56 : decode cX10_behind 56 = .ok (.getfield 16, 3) := by decide +kernel
theorem dX10_behind_59 : decode cX10_behind 59 = .ok (.bipush 43, 2) := by decide +kernel
theorem dX10_behind_61 : decode cX10_behind 61 = .ok (.iload_n 1, 1) := by decide +kernel
theorem dX10_behind_62 : decode cX10_behind 62 = .ok (.iadd, 1) := by decide +kernel
theorem dX10_behind_63 : decode cX10_behind 63 = .ok (.iaload, 1) := by decide +kernel
theorem dX10_behind_64 : decode cX10_behind 64 = .ok (.goto 22, 3) := by decide +kernel
theorem dX10_behind_67 : decode cX10_behind 67 = .ok (.iload_n 3, 1) := by decide +kernel
theorem dX10_behind_68 : decode cX10_behind 68 = .ok (.iconst 1, 1) := by decide +kernel
theorem dX10_behind_69 : decode cX10_behind 69 = .ok (.if_icmp .ne 15, 3) := by decide +kernel
theorem dX10_behind_72 : decode cX10_behind 72 = .ok (.aload_n 0, 1) := by decide +kernel
theorem dX10_behind_73 : decode cX10_behind 73 = .ok (.getfield 16, 3) := by decide +kernel
theorem dX10_behind_76 : decode cX10_behind 76 = .ok (.bipush 55, 2) := by decide +kernel
theorem dX10_behind_78 : decode cX10_behind 78 = .ok (.iload_n 1, 1) := by decide +kernel
theorem dX10_behind_79 : decode cX10_behind 79 = .ok (.iadd, 1) := by decide +kernel
theorem dX10_behind_80 : decode cX10_behind 80 = .ok (.iaload, 1) := by decide +kernel
theorem dX10_behind_81 : decode cX10_behind 81 = .ok (.goto 5, 3) := by decide +kernel
theorem dX10_behind_84 : decode cX10_behind 84 = .ok (.iload 4, 2) := by decide +kernel
theorem dX10_behind_86 : decode cX10_behind 86 = .ok (.ireturn, 1) := by decide +kernel
theorem dX10_findFar_0 : decode cX10_findFar 0 = .ok (.iconst 0, 1) := by decide +kernel
theorem dX10_findFar_1 : decode cX10_findFar 1 = .ok (.istore_n 3, 1) := by decide +kernel
theorem dX10_findFar_2 : decode cX10_findFar 2 = .ok (.iload_n 3, 1) := by decide +kernel
theorem dX10_findFar_3 : decode cX10_findFar 3 = .ok (.bipush 25, 2) := by decide +kernel
theorem dX10_findFar_5 : decode cX10_findFar 5 = .ok (.if_icmp .ge 26, 3) := by decide +kernel
theorem dX10_findFar_8 : decode cX10_findFar 8 = .ok (.aload_n 0, 1) := by decide +kernel
theorem dX10_findFar_9 : decode cX10_findFar 9 = .ok (.getfield 34, 3) := by decide +kernel
theorem dX10_findFar_12 : decode cX10_findFar 12 = .ok (.iload_n 3, 1) := by decide +kernel
theorem dX10_findFar_13 : decode cX10_findFar 13 = .ok (.iload_n 3, 1) := by decide +kernel
theorem dX10_findFar_14 : decode cX10_findFar 14 = .ok (.iload_n 2, 1) := by decide +kernel
theorem dX10_findFar_15 : decode cX10_findFar 15 = .ok (.if_icmp .ne 7, 3) := by decide +kernel
theorem dX10_findFar_18 : decode cX10_findFar 18 = .ok (.iconst 0, 1) := by decide +kernel
theorem dX10_findFar_19 : decode cX10_findFar 19 = .ok (.goto 5, 3) := by decide +kernel
theorem dX10_findFar_22 : decode cX10_findFar 22 = .ok (.ldc 167, 2) := by decide +kernel
theorem dX10_findFar_24 : decode cX10_findFar 24 = .ok (.iastore, 1) := by decide +kernel
theorem dX10_findFar_25 : decode cX10_findFar 25 = .ok (.iinc 3 1, 3) := by decide +kernel
theorem dX10_findFar_28 : decode cX10_findFar 28 = .ok (.goto (-26), 3) := by decide +kernel
theorem dX10_findFar_31 : decode cX10_findFar 31 = .ok (.iconst 0, 1) := by decide +kernel
theorem dX10_findFar_32 : decode cX10_findFar 32 = .ok (.istore_n 3, 1) := by decide +kernel
theorem dX10_findFar_33 : decode cX10_findFar 33 = .ok (.iload_n 3, 1) := by decide +kernel
theorem dX10_findFar_34 : decode cX10_findFar 34 = .ok (.bipush 25, 2) := by decide +kernel
theorem dX10_findFar_36 : decode cX10_findFar 36 = .ok (.if_icmp .ge 120, 3) := by decide +kernel
theorem dX10_findFar_39 : decode cX10_findFar 39 = .ok (.iconst 0, 1) := by decide +kernel
theorem dX10_findFar_40 : decode cX10_findFar 40 = .ok (.istore 4, 2) := by decide +kernel
theorem dX10_findFar_42 : decode cX10_findFar 42 = .ok (.iload 4, 2) := by decide +kernel
theorem dX10_findFar_44 : decode cX10_findFar 44 = .ok (.sipush 200, 3) := by decide +kernel
theorem dX10_findFar_47 : decode cX10_findFar 47 = .ok (.if_icmp .ge 103, 3) := by decide +kernel
theorem dX10_findFar_50 : decode cX10_findFar 50 = .ok (.iload 4, 2) := by decide +kernel
theorem dX10_findFar_52 : decode cX10_findFar 52 = .ok (.bipush 8, 2) := by decide +kernel
theorem dX10_findFar_54 : decode cX10_findFar 54 = .ok (.idiv, 1) := by decide +kernel
theorem dX10_findFar_55 : decode cX10_findFar 55 = .ok (.iload 4, 2) := by decide +kernel
theorem dX10_findFar_57 : decode cX10_findFar 57 = .ok (.bipush 8, 2) := by decide +kernel
theorem dX10_findFar_59 : decode cX10_findFar 59 = .ok (.irem, 1) := by decide +kernel
theorem dX10_findFar_60 : decode cX10_findFar 60 = .ok (.invokestatic 119, 3) := by decide +kernel
theorem dX10_findFar_63 : decode cX10_findFar 63 = .ok (.istore 5, 2) := by decide +kernel
theorem dX10_findFar_65 : decode cX10_findFar 65 = .ok (.iload 5, 2) := by decide +kernel
theorem dX10_findFar_67 : decode cX10_findFar 67 = .ok (.bipush (-9), 2) := by decide +kernel
theorem dX10_findFar_69 : decode cX10_findFar 69 = .ok (.if_icmp .ne 8, 3) := by decide +kernel
theorem dX10_findFar_72 : decode cX10_findFar 72 = .ok (.ldc 167, 2) := by decide +kernel
theorem dX10_findFar_74 : decode cX10_findFar 74 = .ok (.goto 28, 3) := by decide +kernel
theorem dX10_findFar_77 : decode cX10_findFar 77 = .ok (.aload_n 0, 1) := by decide +kernel
theorem dX10_findFar_78 : decode cX10_findFar 78 = .ok (.getfield 34, 3) := by decide +kernel
theorem dX10_findFar_81 : decode cX10_findFar 81 = .ok (.iload 5, 2) := by decide +kernel
theorem dX10_findFar_83 : decode cX10_findFar 83 = .ok (.iaload, 1) := by decide +kernel
theorem dX10_findFar_84 : decode cX10_findFar 84 = .ok (.sipush 1000, 3) := by decide +kernel
theorem dX10_findFar_87 : decode cX10_findFar 87 = .ok (.aload_n 0, 1) := by decide +kernel
theorem dX10_findFar_88 : decode cX10_findFar 88 = .ok (.iconst 0, 1) := by decide +kernel
theorem dX10_findFar_89 : decode cX10_findFar 89 = .ok (.iload_n 1, 1) := by decide +kernel
theorem dX10_findFar_90 : decode cX10_findFar 90 = .ok (.iload 4, 2) := by decide +kernel
theorem dX10_findFar_92 : decode cX10_findFar 92 = .ok (.bipush 8, 2) := by decide +kernel
theorem dX10_findFar_94 : decode cX10_findFar 94 = .ok (.irem, 1) := by decide +kernel
theorem dX10_findFar_95 : decode cX10_findFar 95 = .ok (.invokevirtual 122, 3) := by decide +kernel
theorem dX10_findFar_98 : decode cX10_findFar 98 = .ok (.imul, 1) := by decide +kernel
theorem dX10_findFar_99 : decode cX10_findFar 99 = .ok (.iadd, 1) := by decide +kernel
theorem dX10_findFar_100 : decode cX10_findFar 100 = .ok (.iconst 1, 1) := by decide +kernel
theorem dX10_findFar_101 : decode cX10_findFar 101 = .ok (.iadd, 1) := by decide +kernel
theorem dX10_findFar_102 : decode cX10_findFar 102 = .ok (.istore 6, 2) := by decide +kernel
theorem dX10_findFar_104 : decode cX10_findFar 104 = .ok (.aload_n 0, 1) := by decide +kernel
theorem dX10_findFar_105 : decode cX10_findFar 105 = .ok (.getfield 34, 3) := by decide +kernel
theorem dX10_findFar_108 : decode cX10_findFar 108 = .ok (.iload 4, 2) := by decide +kernel
theorem dX10_findFar_110 : decode cX10_findFar 110 = .ok (.bipush 8, 2) := by decide +kernel
theorem dX10_findFar_112 : decode cX10_findFar 112 = .ok (.idiv, 1) := by decide +kernel
theorem dX10_findFar_113 : decode cX10_findFar 113 = .ok (.iload 6, 2) := by decide +kernel
theorem dX10_findFar_115 : decode cX10_findFar 115 = .ok (.aload_n 0, 1) := by decide +kernel
theorem dX10_findFar_116 : decode cX10_findFar 116 = .ok (.getfield 34, 3) := by decide +kernel
theorem dX10_findFar_119 : decode cX10_findFar 119 = .ok (.iload 4, 2) := by decide +kernel
theorem dX10_findFar_121 : decode cX10_findFar 121 = .ok (.bipush 8, 2) := by decide +kernel
theorem dX10_findFar_123 : decode cX10_findFar 123 = .ok (.idiv, 1) := by decide +kernel
theorem dX10_findFar_124 : decode cX10_findFar 124 = .ok (.iaload, 1) := by decide +kernel
theorem dX10_findFar_125 : decode cX10_findFar 125 = .ok (.if_icmp .ge 8, 3) := by decide +kernel
theorem dX10_findFar_128 : decode cX10_findFar 128 = .ok (.iload 6, 2) := by decide +kernel
theorem dX10_findFar_130 : decode cX10_findFar 130 = .ok (.goto 13, 3) := by decide +kernel
theorem dX10_findFar_133 : decode cX10_findFar 133 = .ok (.aload_n 0, 1) := by decide +kernel
theorem dX10_findFar_134 : decode cX10_findFar 134 = .ok (.getfield 34, 3) := by decide +kernel
theorem dX10_findFar_137 : decode cX10_findFar 137 = .ok (.iload 4, 2) := by decide +kernel
theorem dX10_findFar_139 : decode cX10_findFar 139 = .ok (.bipush 8, 2) := by decide +kernel
theorem dX10_findFar_141 : decode cX10_findFar 141 = .ok (.idiv, 1) := by decide +kernel
theorem dX10_findFar_142 : decode cX10_findFar 142 = .ok (.iaload, 1) := by decide +kernel
theorem dX10_findFar_143 : decode cX10_findFar 143 = .ok (.iastore, 1) := by decide +kernel
theorem dX10_findFar_144 : decode cX10_findFar 144 = .ok (.iinc 4 1, 3) := by decide +kernel
theorem dX10_findFar_147 : decode cX10_findFar 147 = .ok (.goto (-105), 3) := by decide +kernel
theorem dX10_findFar_150 : decode cX10_findFar 150 = .ok (.iinc 3 1, 3) := by decide +kernel
theorem dX10_findFar_153 : decode cX10_findFar 153 = .ok (.goto (-120), 3) := by decide +kernel
theorem dX10_findFar_156 : decode cX10_findFar 156 = .ok (.return_, 1) := by decide +kernel
theorem dX10_firstWay_0 : decode cX10_firstWay 0 = .ok (.aload_n 0, 1) := by decide +kernel
theorem dX10_firstWay_1 : decode cX10_firstWay 1 = .ok (.getfield 16, 3) := by decide +kernel
theorem dX10_firstWay_4 : decode cX10_firstWay 4 = .ok (.iload_n 1, 1) := by decide +kernel
theorem dX10_firstWay_5 : decode cX10_firstWay 5 = .ok (.iaload, 1) := by decide +kernel
theorem dX10_firstWay_6 : decode cX10_firstWay 6 = .ok (.istore_n 2, 1) := by decide +kernel
theorem dX10_firstWay_7 : decode cX10_firstWay 7 = .ok (.iconst 0, 1) := by decide +kernel
theorem dX10_firstWay_8 : decode cX10_firstWay 8 = .ok (.istore_n 3, 1) := by decide +kernel
theorem dX10_firstWay_9 : decode cX10_firstWay 9 = .ok (.iload_n 3, 1) := by decide +kernel
theorem dX10_firstWay_10 : decode cX10_firstWay 10 = .ok (.bipush 8, 2) := by decide +kernel
theorem dX10_firstWay_12 : decode cX10_firstWay 12 = .ok (.if_icmp .ge 64, 3) := by decide +kernel
theorem dX10_firstWay_15 : decode cX10_firstWay 15 = .ok (.aload_n 0, 1) := by decide +kernel
theorem dX10_firstWay_16 : decode cX10_firstWay 16 = .ok (.getfield 34, 3) := by decide +kernel
theorem dX10_firstWay_19 : decode cX10_firstWay 19 = .ok (.iload_n 2, 1) := by decide +kernel
theorem dX10_firstWay_20 : decode cX10_firstWay 20 = .ok (.iaload, 1) := by decide +kernel
theorem dX10_firstWay_21 : decode cX10_firstWay 21 = .ok (.ifCond .le 55, 3) := by decide +kernel
theorem dX10_firstWay_24 : decode cX10_firstWay 24 = .ok (.iload_n 2, 1) := by decide +kernel
theorem dX10_firstWay_25 : decode cX10_firstWay 25 = .ok (.iload_n 3, 1) := by decide +kernel
theorem dX10_firstWay_26 : decode cX10_firstWay 26 = .ok (.invokestatic 119, 3) := by decide +kernel
theorem dX10_firstWay_29 : decode cX10_firstWay 29 = .ok (.istore 4, 2) := by decide +kernel
theorem dX10_firstWay_31 : decode cX10_firstWay 31 = .ok (.iload 4, 2) := by decide +kernel
theorem dX10_firstWay_33 : decode cX10_firstWay 33 = .ok (.bipush (-9), 2) := by decide +kernel
theorem dX10_firstWay_35 : decode cX10_firstWay 35 = .ok (.if_icmp .eq 35, 3) := by decide +kernel
theorem dX10_firstWay_38 : decode cX10_firstWay 38 = .ok (.aload_n 0, 1) := by decide +kernel
theorem dX10_firstWay_39 : decode cX10_firstWay 39 = .ok (.getfield 34, 3) := by decide +kernel
theorem dX10_firstWay_42 : decode cX10_firstWay 42 = .ok (.iload 4, 2) := by decide +kernel
theorem dX10_firstWay_44 : decode cX10_firstWay 44 = .ok (.iaload, 1) := by decide +kernel
theorem dX10_firstWay_45 : decode cX10_firstWay 45 = .ok (.sipush 1000, 3) := by decide +kernel
theorem dX10_firstWay_48 : decode cX10_firstWay 48 = .ok (.aload_n 0, 1) := by decide +kernel
theorem dX10_firstWay_49 : decode cX10_firstWay 49 = .ok (.iconst 0, 1) := by decide +kernel
theorem dX10_firstWay_50 : decode cX10_firstWay 50 = .ok (.iload_n 1, 1) := by decide +kernel
theorem dX10_firstWay_51 : decode cX10_firstWay 51 = .ok (.iload_n 3, 1) := by decide +kernel
theorem dX10_firstWay_52 : decode cX10_firstWay 52 = .ok (.invokevirtual 122, 3) := by decide +kernel
theorem dX10_firstWay_55 : decode cX10_firstWay 55 = .ok (.imul, 1) := by decide +kernel
theorem dX10_firstWay_56 : decode cX10_firstWay 56 = .ok (.iadd, 1) := by decide +kernel
theorem dX10_firstWay_57 : decode cX10_firstWay 57 = .ok (.iconst 1, 1) := by decide +kernel
theorem dX10_firstWay_58 : decode cX10_firstWay 58 = .ok (.iadd, 1) := by decide +kernel
theorem dX10_firstWay_59 : decode cX10_firstWay 59 = .ok (.aload_n 0, 1) := by decide +kernel
theorem dX10_firstWay_60 : decode cX10_firstWay 60 = .ok (.getfield 34, 3) := by decide +kernel
theorem dX10_firstWay_63 : decode cX10_firstWay 63 = .ok (.iload_n 2, 1) := by decide +kernel
theorem dX10_firstWay_64 : decode cX10_firstWay 64 = .ok (.iaload, 1) := by decide +kernel
theorem dX10_firstWay_65 : decode cX10_firstWay 65 = .ok (.if_icmp .ne 5, 3) := by decide +kernel
theorem dX10_firstWay_68 : decode cX10_firstWay 68 = .ok (.iload_n 3, 1) := by decide +kernel
theorem dX10_firstWay_69 : decode cX10_firstWay 69 = .ok (.ireturn, 1) := by decide +kernel
theorem dX10_firstWay_70 : decode cX10_firstWay 70 = .ok (.iinc 3 1, 3) := by decide +kernel
theorem dX10_firstWay_73 : decode cX10_firstWay 73 = .ok (.goto (-64), 3) := by decide +kernel
theorem dX10_firstWay_76 : decode cX10_firstWay 76 = .ok (.bipush (-9), 2) := by decide +kernel
theorem dX10_firstWay_78 : decode cX10_firstWay 78 = .ok (.ireturn, 1) := by decide +kernel
theorem dX10_least_0 : decode cX10_least 0 = .ok (.aload_n 0, 1) := by decide +kernel
theorem dX10_least_1 : decode cX10_least 1 = .ok (.iload_n 1, 1) := by decide +kernel
theorem dX10_least_2 : decode cX10_least 2 = .ok (.invokevirtual 115, 3) := by decide +kernel
theorem dX10_least_5 : decode cX10_least 5 = .ok (.ifCond .eq 15, 3) := by decide +kernel
theorem dX10_least_8 : decode cX10_least 8 = .ok (.iload_n 2, 1) := by decide +kernel
theorem dX10_least_9 : decode cX10_least 9 = .ok (.i2l, 1) := by decide +kernel
theorem dX10_least_10 : decode cX10_least 10 = .ok (.lconst 0, 1) := by decide +kernel
theorem dX10_least_11 : decode cX10_least 11 = .ok (.ldc2_w 153, 3) := by decide +kernel
theorem dX10_least_14 : decode cX10_least 14 = .ok (.invokestatic 52, 3) := by decide +kernel
theorem dX10_least_17 : decode cX10_least 17 = .ok (.ifCond .ne 5, 3) := by decide +kernel
theorem dX10_least_20 : decode cX10_least 20 = .ok (.iconst (-1), 1) := by decide +kernel
theorem dX10_least_21 : decode cX10_least 21 = .ok (.ireturn, 1) := by decide +kernel
theorem dX10_least_22 : decode cX10_least 22 = .ok (.iload_n 3, 1) := by decide +kernel
theorem dX10_least_23 : decode cX10_least 23 = .ok (.i2l, 1) := by decide +kernel
theorem dX10_least_24 : decode cX10_least 24 = .ok (.lconst 0, 1) := by decide +kernel
theorem dX10_least_25 : decode cX10_least 25 = .ok (.ldc2_w 165, 3) := by decide +kernel
theorem dX10_least_28 : decode cX10_least 28 = .ok (.invokestatic 52, 3) := by decide +kernel
theorem dX10_least_31 : decode cX10_least 31 = .ok (.ifCond .ne 6, 3) := by decide +kernel
theorem dX10_least_34 : decode cX10_least 34 = .ok (.bipush (-2), 2) := by decide +kernel
theorem dX10_least_36 : decode cX10_least 36 = .ok (.ireturn, 1) := by decide +kernel
theorem dX10_least_37 : decode cX10_least 37 = .ok (.aload_n 0, 1) := by decide +kernel
theorem dX10_least_38 : decode cX10_least 38 = .ok (.iload_n 1, 1) := by decide +kernel
theorem dX10_least_39 : decode cX10_least 39 = .ok (.iload_n 2, 1) := by decide +kernel
theorem dX10_least_40 : decode cX10_least 40 = .ok (.invokevirtual 168, 3) := by decide +kernel
theorem dX10_least_43 : decode cX10_least 43 = .ok (.iload_n 3, 1) := by decide +kernel
theorem dX10_least_44 : decode cX10_least 44 = .ok (.ifCond .ne 21, 3) := by decide +kernel
theorem dX10_least_47 : decode cX10_least 47 = .ok (.aload_n 0, 1) := by decide +kernel
theorem dX10_least_48 : decode cX10_least 48 = .ok (.getfield 34, 3) := by decide +kernel
theorem dX10_least_51 : decode cX10_least 51 = .ok (.aload_n 0, 1) := by decide +kernel
theorem dX10_least_52 : decode cX10_least 52 = .ok (.getfield 16, 3) := by decide +kernel
theorem dX10_least_55 : decode cX10_least 55 = .ok (.iload_n 1, 1) := by decide +kernel
theorem dX10_least_56 : decode cX10_least 56 = .ok (.iaload, 1) := by decide +kernel
theorem dX10_least_57 : decode cX10_least 57 = .ok (.iaload, 1) := by decide +kernel
theorem dX10_least_58 : decode cX10_least 58 = .ok (.sipush 1000, 3) := by decide +kernel
theorem dX10_least_61 : decode cX10_least 61 = .ok (.idiv, 1) := by decide +kernel
theorem dX10_least_62 : decode cX10_least 62 = .ok (.goto 31, 3) := by decide +kernel
theorem dX10_least_65 : decode cX10_least 65 = .ok (.iload_n 3, 1) := by decide +kernel
theorem dX10_least_66 : decode cX10_least 66 = .ok (.iconst 1, 1) := by decide +kernel
theorem dX10_least_67 : decode cX10_least 67 = .ok (.if_icmp .ne 21, 3) := by decide +kernel
theorem dX10_least_70 : decode cX10_least 70 = .ok (.aload_n 0, 1) := by decide +kernel
theorem dX10_least_71 : decode cX10_least 71 = .ok (.getfield 34, 3) := by decide +kernel
theorem dX10_least_74 : decode cX10_least 74 = .ok (.aload_n 0, 1) := by decide +kernel
theorem dX10_least_75 : decode cX10_least 75 = .ok (.getfield 16, 3) := by decide +kernel
theorem dX10_least_78 : decode cX10_least 78 = .ok (.iload_n 1, 1) := by decide +kernel
theorem dX10_least_79 : decode cX10_least 79 = .ok (.iaload, 1) := by decide +kernel
theorem dX10_least_80 : decode cX10_least 80 = .ok (.iaload, 1) := by decide +kernel
theorem dX10_least_81 : decode cX10_least 81 = .ok (.sipush 1000, 3) := by decide +kernel
theorem dX10_least_84 : decode cX10_least 84 = .ok (.irem, 1) := by decide +kernel
theorem dX10_least_85 : decode cX10_least 85 = .ok (.goto 8, 3) := by decide +kernel
theorem dX10_least_88 : decode cX10_least 88 = .ok (.aload_n 0, 1) := by decide +kernel
theorem dX10_least_89 : decode cX10_least 89 = .ok (.iload_n 1, 1) := by decide +kernel
theorem dX10_least_90 : decode cX10_least 90 = .ok (.invokevirtual 171, 3) := by decide +kernel
theorem dX10_least_93 : decode cX10_least 93 = .ok (.ireturn, 1) := by decide +kernel
theorem dX10_ringBy_0 : decode cX10_ringBy 0 = .ok (.aload_n 0, 1) := by decide +kernel
theorem dX10_ringBy_1 : decode cX10_ringBy 1 = .ok (.getfield 16, 3) := by decide +kernel
theorem dX10_ringBy_4 : decode cX10_ringBy 4 = .ok (.iload_n 1, 1) := by decide +kernel
theorem dX10_ringBy_5 : decode cX10_ringBy 5 = .ok (.iaload, 1) := by decide +kernel
theorem dX10_ringBy_6 : decode cX10_ringBy 6 = .ok (.istore 4, 2) := by decide +kernel
theorem dX10_ringBy_8 : decode cX10_ringBy 8 = .ok (.iconst 0, 1) := by decide +kernel
theorem dX10_ringBy_9 : decode cX10_ringBy 9 = .ok (.istore 5, 2) := by decide +kernel
theorem dX10_ringBy_11 : decode cX10_ringBy 11 = .ok (.iload_n 2, 1) := by decide +kernel
theorem dX10_ringBy_12 : decode cX10_ringBy 12 = .ok (.istore 6, 2) := by decide +kernel
theorem dX10_ringBy_14 : decode cX10_ringBy 14 = .ok (.iconst 0, 1) := by decide +kernel
theorem dX10_ringBy_15 : decode cX10_ringBy 15 = .ok (.istore 7, 2) := by decide +kernel
theorem dX10_ringBy_17 : decode cX10_ringBy 17 = .ok (.iload 7, 2) := by decide +kernel
theorem dX10_ringBy_19 : decode cX10_ringBy 19 = .ok (.iload_n 3, 1) := by decide +kernel
theorem dX10_ringBy_20 : decode cX10_ringBy 20 = .ok (.if_icmp .ge 54, 3) := by decide +kernel
theorem dX10_ringBy_23 : decode cX10_ringBy 23 = .ok (.iload 4, 2) := by decide +kernel
theorem dX10_ringBy_25 : decode cX10_ringBy 25 = .ok (.iload 6, 2) := by decide +kernel
theorem dX10_ringBy_27 : decode cX10_ringBy 27 = .ok (.bipush 8, 2) := by decide +kernel
theorem dX10_ringBy_29 : decode cX10_ringBy 29 = .ok (.irem, 1) := by decide +kernel
theorem dX10_ringBy_30 : decode cX10_ringBy 30 = .ok (.invokestatic 119, 3) := by decide +kernel
theorem dX10_ringBy_33 : decode cX10_ringBy 33 = .ok (.istore 4, 2) := by decide +kernel
theorem dX10_ringBy_35 : decode cX10_ringBy 35 = .ok (.iload 4, 2) := by decide +kernel
theorem dX10_ringBy_37 : decode cX10_ringBy 37 = .ok (.bipush (-9), 2) := by decide +kernel
theorem dX10_ringBy_39 : decode cX10_ringBy 39 = .ok (.if_icmp .ne 6, 3) := by decide +kernel
theorem dX10_ringBy_42 : decode cX10_ringBy 42 = .ok (.bipush (-9), 2) := by decide +kernel
theorem dX10_ringBy_44 : decode cX10_ringBy 44 = .ok (.ireturn, 1) := by decide +kernel
theorem dX10_ringBy_45 : decode cX10_ringBy 45 = .ok (.iload 5, 2) := by decide +kernel
theorem dX10_ringBy_47 : decode cX10_ringBy 47 = .ok (.aload_n 0, 1) := by decide +kernel
theorem dX10_ringBy_48 : decode cX10_ringBy 48 = .ok (.iconst 0, 1) := by decide +kernel
theorem dX10_ringBy_49 : decode cX10_ringBy 49 = .ok (.iload_n 1, 1) := by decide +kernel
theorem dX10_ringBy_50 : decode cX10_ringBy 50 = .ok (.iload 6, 2) := by decide +kernel
theorem dX10_ringBy_52 : decode cX10_ringBy 52 = .ok (.bipush 8, 2) := by decide +kernel
theorem dX10_ringBy_54 : decode cX10_ringBy 54 = .ok (.irem, 1) := by decide +kernel
theorem dX10_ringBy_55 : decode cX10_ringBy 55 = .ok (.invokevirtual 122, 3) := by decide +kernel
theorem dX10_ringBy_58 : decode cX10_ringBy 58 = .ok (.iadd, 1) := by decide +kernel
theorem dX10_ringBy_59 : decode cX10_ringBy 59 = .ok (.istore 5, 2) := by decide +kernel
theorem dX10_ringBy_61 : decode cX10_ringBy 61 = .ok (.iload 6, 2) := by decide +kernel
theorem dX10_ringBy_63 : decode cX10_ringBy 63 = .ok (.bipush 8, 2) := by decide +kernel
theorem dX10_ringBy_65 : decode cX10_ringBy 65 = .ok (.idiv, 1) := by decide +kernel
theorem dX10_ringBy_66 : decode cX10_ringBy 66 = .ok (.istore 6, 2) := by decide +kernel
theorem dX10_ringBy_68 : decode cX10_ringBy 68 = .ok (.iinc 7 1, 3) := by decide +kernel
theorem dX10_ringBy_71 : decode cX10_ringBy 71 = .ok (.goto (-54), 3) := by decide +kernel
theorem dX10_ringBy_74 : decode cX10_ringBy 74 = .ok (.iload 4, 2) := by decide +kernel
theorem dX10_ringBy_76 : decode cX10_ringBy 76 = .ok (.aload_n 0, 1) := by decide +kernel
theorem dX10_ringBy_77 : decode cX10_ringBy 77 = .ok (.getfield 16, 3) := by decide +kernel
theorem dX10_ringBy_80 : decode cX10_ringBy 80 = .ok (.iload_n 1, 1) := by decide +kernel
theorem dX10_ringBy_81 : decode cX10_ringBy 81 = .ok (.iaload, 1) := by decide +kernel
theorem dX10_ringBy_82 : decode cX10_ringBy 82 = .ok (.if_icmp .ne 8, 3) := by decide +kernel
theorem dX10_ringBy_85 : decode cX10_ringBy 85 = .ok (.iload 5, 2) := by decide +kernel
theorem dX10_ringBy_87 : decode cX10_ringBy 87 = .ok (.goto 5, 3) := by decide +kernel
theorem dX10_ringBy_90 : decode cX10_ringBy 90 = .ok (.bipush (-9), 2) := by decide +kernel
theorem dX10_ringBy_92 : decode cX10_ringBy 92 = .ok (.ireturn, 1) := by decide +kernel
theorem dX10_rings_0 : decode cX10_rings 0 = .ok (.aload_n 0, 1) := by decide +kernel
theorem dX10_rings_1 : decode cX10_rings 1 = .ok (.iload_n 1, 1) := by decide +kernel
theorem dX10_rings_2 : decode cX10_rings 2 = .ok (.invokevirtual 115, 3) := by decide +kernel
theorem dX10_rings_5 : decode cX10_rings 5 = .ok (.ifCond .ne 5, 3) := by decide +kernel
theorem dX10_rings_8 : decode cX10_rings 8 = .ok (.iconst (-1), 1) := by decide +kernel
theorem dX10_rings_9 : decode cX10_rings 9 = .ok (.ireturn, 1) := by decide +kernel
theorem dX10_rings_10 : decode cX10_rings 10 = .ok (.iload_n 2, 1) := by decide +kernel
theorem dX10_rings_11 : decode cX10_rings 11 = .ok (.i2l, 1) := by decide +kernel
theorem dX10_rings_12 : decode cX10_rings 12 = .ok (.lconst 1, 1) := by decide +kernel
theorem dX10_rings_13 : decode cX10_rings 13 = .ok (.ldc2_w 110, 3) := by decide +kernel
theorem dX10_rings_16 : decode cX10_rings 16 = .ok (.invokestatic 52, 3) := by decide +kernel
theorem dX10_rings_19 : decode cX10_rings 19 = .ok (.ifCond .eq 13, 3) := by decide +kernel
theorem dX10_rings_22 : decode cX10_rings 22 = .ok (.iload_n 3, 1) := by decide +kernel
theorem dX10_rings_23 : decode cX10_rings 23 = .ok (.i2l, 1) := by decide +kernel
theorem dX10_rings_24 : decode cX10_rings 24 = .ok (.lconst 0, 1) := by decide +kernel
theorem dX10_rings_25 : decode cX10_rings 25 = .ok (.lconst 1, 1) := by decide +kernel
theorem dX10_rings_26 : decode cX10_rings 26 = .ok (.invokestatic 52, 3) := by decide +kernel
theorem dX10_rings_29 : decode cX10_rings 29 = .ok (.ifCond .ne 6, 3) := by decide +kernel
theorem dX10_rings_32 : decode cX10_rings 32 = .ok (.bipush (-2), 2) := by decide +kernel
theorem dX10_rings_34 : decode cX10_rings 34 = .ok (.ireturn, 1) := by decide +kernel
theorem dX10_rings_35 : decode cX10_rings 35 = .ok (.iload_n 2, 1) := by decide +kernel
theorem dX10_rings_36 : decode cX10_rings 36 = .ok (.iconst 1, 1) := by decide +kernel
theorem dX10_rings_37 : decode cX10_rings 37 = .ok (.if_icmp .ne 8, 3) := by decide +kernel
theorem dX10_rings_40 : decode cX10_rings 40 = .ok (.bipush 8, 2) := by decide +kernel
theorem dX10_rings_42 : decode cX10_rings 42 = .ok (.goto 27, 3) := by decide +kernel
theorem dX10_rings_45 : decode cX10_rings 45 = .ok (.iload_n 2, 1) := by decide +kernel
theorem dX10_rings_46 : decode cX10_rings 46 = .ok (.iconst 2, 1) := by decide +kernel
theorem dX10_rings_47 : decode cX10_rings 47 = .ok (.if_icmp .ne 8, 3) := by decide +kernel
theorem dX10_rings_50 : decode cX10_rings 50 = .ok (.bipush 64, 2) := by decide +kernel
theorem dX10_rings_52 : decode cX10_rings 52 = .ok (.goto 17, 3) := by decide +kernel
theorem dX10_rings_55 : decode cX10_rings 55 = .ok (.iload_n 2, 1) := by decide +kernel
theorem dX10_rings_56 : decode cX10_rings 56 = .ok (.iconst 3, 1) := by decide +kernel
theorem dX10_rings_57 : decode cX10_rings 57 = .ok (.if_icmp .ne 9, 3) := by decide +kernel
theorem dX10_rings_60 : decode cX10_rings 60 = .ok (.sipush 512, 3) := by decide +kernel
theorem dX10_rings_63 : decode cX10_rings 63 = .ok (.goto 6, 3) := by decide +kernel
theorem dX10_rings_66 : decode cX10_rings 66 = .ok (.sipush 4096, 3) := by decide +kernel
theorem dX10_rings_69 : decode cX10_rings 69 = .ok (.istore 4, 2) := by decide +kernel
theorem dX10_rings_71 : decode cX10_rings 71 = .ok (.iconst 0, 1) := by decide +kernel
theorem dX10_rings_72 : decode cX10_rings 72 = .ok (.istore 5, 2) := by decide +kernel
theorem dX10_rings_74 : decode cX10_rings 74 = .ok (.bipush (-9), 2) := by decide +kernel
theorem dX10_rings_76 : decode cX10_rings 76 = .ok (.istore 6, 2) := by decide +kernel
theorem dX10_rings_78 : decode cX10_rings 78 = .ok (.iconst 0, 1) := by decide +kernel
theorem dX10_rings_79 : decode cX10_rings 79 = .ok (.istore 7, 2) := by decide +kernel
theorem dX10_rings_81 : decode cX10_rings 81 = .ok (.iload 7, 2) := by decide +kernel
theorem dX10_rings_83 : decode cX10_rings 83 = .ok (.iload 4, 2) := by decide +kernel
theorem dX10_rings_85 : decode cX10_rings 85 = .ok (.if_icmp .ge 66, 3) := by decide +kernel
theorem dX10_rings_88 : decode cX10_rings 88 = .ok (.aload_n 0, 1) := by decide +kernel
theorem dX10_rings_89 : decode cX10_rings 89 = .ok (.iload_n 1, 1) := by decide +kernel
theorem dX10_rings_90 : decode cX10_rings 90 = .ok (.iload 7, 2) := by decide +kernel
theorem dX10_rings_92 : decode cX10_rings 92 = .ok (.iload_n 2, 1) := by decide +kernel
theorem dX10_rings_93 : decode cX10_rings 93 = .ok (.invokevirtual 174, 3) := by decide +kernel
theorem dX10_rings_96 : decode cX10_rings 96 = .ok (.istore 8, 2) := by decide +kernel
theorem dX10_rings_98 : decode cX10_rings 98 = .ok (.iload 5, 2) := by decide +kernel
theorem dX10_rings_100 : decode cX10_rings 100 = .ok (.iload 8, 2) := by decide +kernel
theorem dX10_rings_102 : decode cX10_rings 102 = .ok (.bipush (-9), 2) := by decide +kernel
theorem dX10_rings_104 : decode cX10_rings 104 = .ok (.if_icmp .ne 7, 3) := by decide +kernel
theorem dX10_rings_107 : decode cX10_rings 107 = .ok (.iconst 0, 1) := by decide +kernel
theorem dX10_rings_108 : decode cX10_rings 108 = .ok (.goto 4, 3) := by decide +kernel
theorem dX10_rings_111 : decode cX10_rings 111 = .ok (.iconst 1, 1) := by decide +kernel
theorem dX10_rings_112 : decode cX10_rings 112 = .ok (.iadd, 1) := by decide +kernel
theorem dX10_rings_113 : decode cX10_rings 113 = .ok (.istore 5, 2) := by decide +kernel
theorem dX10_rings_115 : decode cX10_rings 115 = .ok (.iload 8, 2) := by decide +kernel
theorem dX10_rings_117 : decode cX10_rings 117 = .ok (.bipush (-9), 2) := by decide +kernel
theorem dX10_rings_119 : decode cX10_rings 119 = .ok (.if_icmp .eq 22, 3) := by decide +kernel
theorem dX10_rings_122 : decode cX10_rings 122 = .ok (.iload 6, 2) := by decide +kernel
theorem dX10_rings_124 : decode cX10_rings 124 = .ok (.bipush (-9), 2) := by decide +kernel
theorem dX10_rings_126 : decode cX10_rings 126 = .ok (.if_icmp .eq 10, 3) := by decide +kernel
theorem dX10_rings_129 : decode cX10_rings 129 = .ok (.iload 8, 2) := by decide +kernel
theorem dX10_rings_131 : decode cX10_rings 131 = .ok (.iload 6, 2) := by decide +kernel
theorem dX10_rings_133 : decode cX10_rings 133 = .ok (.if_icmp .ge 8, 3) := by decide +kernel
theorem dX10_rings_136 : decode cX10_rings 136 = .ok (.iload 8, 2) := by decide +kernel
theorem dX10_rings_138 : decode cX10_rings 138 = .ok (.goto 5, 3) := by decide +kernel
theorem dX10_rings_141 : decode cX10_rings 141 = .ok (.iload 6, 2) := by decide +kernel
theorem dX10_rings_143 : decode cX10_rings 143 = .ok (.istore 6, 2) := by decide +kernel
theorem dX10_rings_145 : decode cX10_rings 145 = .ok (.iinc 7 1, 3) := by decide +kernel
theorem dX10_rings_148 : decode cX10_rings 148 = .ok (.goto (-67), 3) := by decide +kernel
theorem dX10_rings_151 : decode cX10_rings 151 = .ok (.iload_n 3, 1) := by decide +kernel
theorem dX10_rings_152 : decode cX10_rings 152 = .ok (.ifCond .ne 8, 3) := by decide +kernel
theorem dX10_rings_155 : decode cX10_rings 155 = .ok (.iload 5, 2) := by decide +kernel
theorem dX10_rings_157 : decode cX10_rings 157 = .ok (.goto 5, 3) := by decide +kernel
theorem dX10_rings_160 : decode cX10_rings 160 = .ok (.iload 6, 2) := by decide +kernel
theorem dX10_rings_162 : decode cX10_rings 162 = .ok (.ireturn, 1) := by decide +kernel
theorem dX10_tryThing_0 : decode cX10_tryThing 0 = .ok (.iload_n 1, 1) := by decide +kernel
theorem dX10_tryThing_1 : decode cX10_tryThing 1 = .ok (.tableswitch 305 1 7 #[43, 68, 112, 172, 205, 252, 279], 43) := by decide +kernel
theorem dX10_tryThing_44 : decode cX10_tryThing 44 = .ok (.aload_n 0, 1) := by decide +kernel
theorem dX10_tryThing_45 : decode cX10_tryThing 45 = .ok (.iconst 1, 1) := by decide +kernel
theorem dX10_tryThing_46 : decode cX10_tryThing 46 = .ok (.iload_n 2, 1) := by decide +kernel
theorem dX10_tryThing_47 : decode cX10_tryThing 47 = .ok (.iload_n 3, 1) := by decide +kernel
theorem dX10_tryThing_48 : decode cX10_tryThing 48 = .ok (.invokevirtual 133, 3) := by decide +kernel
theorem dX10_tryThing_51 : decode cX10_tryThing 51 = .ok (.istore 4, 2) := by decide +kernel
theorem dX10_tryThing_53 : decode cX10_tryThing 53 = .ok (.iload 4, 2) := by decide +kernel
theorem dX10_tryThing_55 : decode cX10_tryThing 55 = .ok (.ifCond .eq 11, 3) := by decide +kernel
theorem dX10_tryThing_58 : decode cX10_tryThing 58 = .ok (.aload_n 0, 1) := by decide +kernel
theorem dX10_tryThing_59 : decode cX10_tryThing 59 = .ok (.iconst 1, 1) := by decide +kernel
theorem dX10_tryThing_60 : decode cX10_tryThing 60 = .ok (.iload_n 2, 1) := by decide +kernel
theorem dX10_tryThing_61 : decode cX10_tryThing 61 = .ok (.iload_n 3, 1) := by decide +kernel
theorem dX10_tryThing_62 : decode cX10_tryThing 62 = .ok (.invokevirtual 137, 3) := by decide +kernel
theorem dX10_tryThing_65 : decode cX10_tryThing 65 = .ok (.pop, 1) := by decide +kernel
theorem dX10_tryThing_66 : decode cX10_tryThing 66 = .ok (.iload 4, 2) := by decide +kernel
theorem dX10_tryThing_68 : decode cX10_tryThing 68 = .ok (.ireturn, 1) := by decide +kernel
theorem dX10_tryThing_69 : decode cX10_tryThing 69 = .ok (.iload_n 2, 1) := by decide +kernel
theorem dX10_tryThing_70 : decode cX10_tryThing 70 = .ok (.ifCond .ne 15, 3) := by decide +kernel
theorem dX10_tryThing_73 : decode cX10_tryThing 73 = .ok (.aload_n 0, 1) := by decide +kernel
theorem dX10_tryThing_74 : decode cX10_tryThing 74 = .ok (.iload_n 3, 1) := by decide +kernel
theorem dX10_tryThing_75 : decode cX10_tryThing 75 = .ok (.invokevirtual 115, 3) := by decide +kernel
theorem dX10_tryThing_78 : decode cX10_tryThing 78 = .ok (.ifCond .eq 7, 3) := by decide +kernel
theorem dX10_tryThing_81 : decode cX10_tryThing 81 = .ok (.iconst 1, 1) := by decide +kernel
theorem dX10_tryThing_82 : decode cX10_tryThing 82 = .ok (.goto 4, 3) := by decide +kernel
theorem dX10_tryThing_85 : decode cX10_tryThing 85 = .ok (.iconst 0, 1) := by decide +kernel
theorem dX10_tryThing_86 : decode cX10_tryThing 86 = .ok (.istore 5, 2) := by decide +kernel
theorem dX10_tryThing_88 : decode cX10_tryThing 88 = .ok (.aload_n 0, 1) := by decide +kernel
theorem dX10_tryThing_89 : decode cX10_tryThing 89 = .ok (.getfield 16, 3) := by decide +kernel
theorem dX10_tryThing_92 : decode cX10_tryThing 92 = .ok (.bipush 59, 2) := by decide +kernel
theorem dX10_tryThing_94 : decode cX10_tryThing 94 = .ok (.dup2, 1) := by decide +kernel
theorem dX10_tryThing_95 : decode cX10_tryThing 95 = .ok (.iaload, 1) := by decide +kernel
theorem dX10_tryThing_96 : decode cX10_tryThing 96 = .ok (.iload 5, 2) := by decide +kernel
theorem dX10_tryThing_98 : decode cX10_tryThing 98 = .ok (.ifCond .eq 9, 3) := by decide +kernel
theorem dX10_tryThing_101 : decode cX10_tryThing 101 = .ok (.iconst 1, 1) := by decide +kernel
theorem dX10_tryThing_102 : decode cX10_tryThing 102 = .ok (.iload_n 3, 1) := by decide +kernel
theorem dX10_tryThing_103 : decode cX10_tryThing 103 = .ok (.ishl, 1) := by decide +kernel
theorem dX10_tryThing_104 : decode cX10_tryThing 104 = .ok (.goto 4, 3) := by decide +kernel
theorem dX10_tryThing_107 : decode cX10_tryThing 107 = .ok (.iconst 0, 1) := by decide +kernel
theorem dX10_tryThing_108 : decode cX10_tryThing 108 = .ok (.ixor, 1) := by decide +kernel
theorem dX10_tryThing_109 : decode cX10_tryThing 109 = .ok (.iastore, 1) := by decide +kernel
theorem dX10_tryThing_110 : decode cX10_tryThing 110 = .ok (.iload 5, 2) := by decide +kernel
theorem dX10_tryThing_112 : decode cX10_tryThing 112 = .ok (.ireturn, 1) := by decide +kernel
theorem dX10_tryThing_113 : decode cX10_tryThing 113 = .ok (.iload_n 2, 1) := by decide +kernel
theorem dX10_tryThing_114 : decode cX10_tryThing 114 = .ok (.ifCond .ne 33, 3) := by decide +kernel
theorem dX10_tryThing_117 : decode cX10_tryThing 117 = .ok (.aload_n 0, 1) := by decide +kernel
theorem dX10_tryThing_118 : decode cX10_tryThing 118 = .ok (.iload_n 3, 1) := by decide +kernel
theorem dX10_tryThing_119 : decode cX10_tryThing 119 = .ok (.invokevirtual 115, 3) := by decide +kernel
theorem dX10_tryThing_122 : decode cX10_tryThing 122 = .ok (.ifCond .eq 25, 3) := by decide +kernel
theorem dX10_tryThing_125 : decode cX10_tryThing 125 = .ok (.aload_n 0, 1) := by decide +kernel
theorem dX10_tryThing_126 : decode cX10_tryThing 126 = .ok (.getfield 16, 3) := by decide +kernel
theorem dX10_tryThing_129 : decode cX10_tryThing 129 = .ok (.bipush 55, 2) := by decide +kernel
theorem dX10_tryThing_131 : decode cX10_tryThing 131 = .ok (.iload_n 3, 1) := by decide +kernel
theorem dX10_tryThing_132 : decode cX10_tryThing 132 = .ok (.iadd, 1) := by decide +kernel
theorem dX10_tryThing_133 : decode cX10_tryThing 133 = .ok (.iaload, 1) := by decide +kernel
theorem dX10_tryThing_134 : decode cX10_tryThing 134 = .ok (.aload_n 0, 1) := by decide +kernel
theorem dX10_tryThing_135 : decode cX10_tryThing 135 = .ok (.getfield 13, 3) := by decide +kernel
theorem dX10_tryThing_138 : decode cX10_tryThing 138 = .ok (.iload_n 3, 1) := by decide +kernel
theorem dX10_tryThing_139 : decode cX10_tryThing 139 = .ok (.iaload, 1) := by decide +kernel
theorem dX10_tryThing_140 : decode cX10_tryThing 140 = .ok (.if_icmp .ge 7, 3) := by decide +kernel
theorem dX10_tryThing_143 : decode cX10_tryThing 143 = .ok (.iconst 1, 1) := by decide +kernel
theorem dX10_tryThing_144 : decode cX10_tryThing 144 = .ok (.goto 4, 3) := by decide +kernel
theorem dX10_tryThing_147 : decode cX10_tryThing 147 = .ok (.iconst 0, 1) := by decide +kernel
theorem dX10_tryThing_148 : decode cX10_tryThing 148 = .ok (.istore 6, 2) := by decide +kernel
theorem dX10_tryThing_150 : decode cX10_tryThing 150 = .ok (.iload 6, 2) := by decide +kernel
theorem dX10_tryThing_152 : decode cX10_tryThing 152 = .ok (.ifCond .eq 18, 3) := by decide +kernel
theorem dX10_tryThing_155 : decode cX10_tryThing 155 = .ok (.aload_n 0, 1) := by decide +kernel
theorem dX10_tryThing_156 : decode cX10_tryThing 156 = .ok (.getfield 16, 3) := by decide +kernel
theorem dX10_tryThing_159 : decode cX10_tryThing 159 = .ok (.bipush 55, 2) := by decide +kernel
theorem dX10_tryThing_161 : decode cX10_tryThing 161 = .ok (.iload_n 3, 1) := by decide +kernel
theorem dX10_tryThing_162 : decode cX10_tryThing 162 = .ok (.iadd, 1) := by decide +kernel
theorem dX10_tryThing_163 : decode cX10_tryThing 163 = .ok (.aload_n 0, 1) := by decide +kernel
theorem dX10_tryThing_164 : decode cX10_tryThing 164 = .ok (.getfield 13, 3) := by decide +kernel
theorem dX10_tryThing_167 : decode cX10_tryThing 167 = .ok (.iload_n 3, 1) := by decide +kernel
theorem dX10_tryThing_168 : decode cX10_tryThing 168 = .ok (.iaload, 1) := by decide +kernel
theorem dX10_tryThing_169 : decode cX10_tryThing 169 = .ok (.iastore, 1) := by decide +kernel
theorem dX10_tryThing_170 : decode cX10_tryThing 170 = .ok (.iload 6, 2) := by decide +kernel
theorem dX10_tryThing_172 : decode cX10_tryThing 172 = .ok (.ireturn, 1) := by decide +kernel
theorem dX10_tryThing_173 : decode cX10_tryThing 173 = .ok (.iload_n 2, 1) := by decide +kernel
theorem dX10_tryThing_174 : decode cX10_tryThing 174 = .ok (.ifCond .ne 15, 3) := by decide +kernel
theorem dX10_tryThing_177 : decode cX10_tryThing 177 = .ok (.aload_n 0, 1) := by decide +kernel
theorem dX10_tryThing_178 : decode cX10_tryThing 178 = .ok (.iload_n 3, 1) := by decide +kernel
theorem dX10_tryThing_179 : decode cX10_tryThing 179 = .ok (.invokevirtual 115, 3) := by decide +kernel
theorem dX10_tryThing_182 : decode cX10_tryThing 182 = .ok (.ifCond .eq 7, 3) := by decide +kernel
theorem dX10_tryThing_185 : decode cX10_tryThing 185 = .ok (.iconst 1, 1) := by decide +kernel
theorem dX10_tryThing_186 : decode cX10_tryThing 186 = .ok (.goto 4, 3) := by decide +kernel
theorem dX10_tryThing_189 : decode cX10_tryThing 189 = .ok (.iconst 0, 1) := by decide +kernel
theorem dX10_tryThing_190 : decode cX10_tryThing 190 = .ok (.istore 7, 2) := by decide +kernel
theorem dX10_tryThing_192 : decode cX10_tryThing 192 = .ok (.iload 7, 2) := by decide +kernel
theorem dX10_tryThing_194 : decode cX10_tryThing 194 = .ok (.ifCond .eq 9, 3) := by decide +kernel
theorem dX10_tryThing_197 : decode cX10_tryThing 197 = .ok (.aload_n 0, 1) := by decide +kernel
theorem dX10_tryThing_198 : decode cX10_tryThing 198 = .ok (.iconst 1, 1) := by decide +kernel
theorem dX10_tryThing_199 : decode cX10_tryThing 199 = .ok (.iload_n 3, 1) := by decide +kernel
theorem dX10_tryThing_200 : decode cX10_tryThing 200 = .ok (.invokevirtual 161, 3) := by decide +kernel
theorem dX10_tryThing_203 : decode cX10_tryThing 203 = .ok (.iload 7, 2) := by decide +kernel
theorem dX10_tryThing_205 : decode cX10_tryThing 205 = .ok (.ireturn, 1) := by decide +kernel
theorem dX10_tryThing_206 : decode cX10_tryThing 206 = .ok (.iload_n 2, 1) := by decide +kernel
theorem dX10_tryThing_207 : decode cX10_tryThing 207 = .ok (.i2l, 1) := by decide +kernel
theorem dX10_tryThing_208 : decode cX10_tryThing 208 = .ok (.lconst 0, 1) := by decide +kernel
theorem dX10_tryThing_209 : decode cX10_tryThing 209 = .ok (.ldc2_w 110, 3) := by decide +kernel
theorem dX10_tryThing_212 : decode cX10_tryThing 212 = .ok (.invokestatic 52, 3) := by decide +kernel
theorem dX10_tryThing_215 : decode cX10_tryThing 215 = .ok (.ifCond .eq 36, 3) := by decide +kernel
theorem dX10_tryThing_218 : decode cX10_tryThing 218 = .ok (.iload_n 3, 1) := by decide +kernel
theorem dX10_tryThing_219 : decode cX10_tryThing 219 = .ok (.i2l, 1) := by decide +kernel
theorem dX10_tryThing_220 : decode cX10_tryThing 220 = .ok (.lconst 0, 1) := by decide +kernel
theorem dX10_tryThing_221 : decode cX10_tryThing 221 = .ok (.ldc2_w 110, 3) := by decide +kernel
theorem dX10_tryThing_224 : decode cX10_tryThing 224 = .ok (.invokestatic 52, 3) := by decide +kernel
theorem dX10_tryThing_227 : decode cX10_tryThing 227 = .ok (.ifCond .eq 24, 3) := by decide +kernel
theorem dX10_tryThing_230 : decode cX10_tryThing 230 = .ok (.aload_n 0, 1) := by decide +kernel
theorem dX10_tryThing_231 : decode cX10_tryThing 231 = .ok (.getfield 16, 3) := by decide +kernel
theorem dX10_tryThing_234 : decode cX10_tryThing 234 = .ok (.bipush 61, 2) := by decide +kernel
theorem dX10_tryThing_236 : decode cX10_tryThing 236 = .ok (.iconst 5, 1) := by decide +kernel
theorem dX10_tryThing_237 : decode cX10_tryThing 237 = .ok (.iload_n 3, 1) := by decide +kernel
theorem dX10_tryThing_238 : decode cX10_tryThing 238 = .ok (.imul, 1) := by decide +kernel
theorem dX10_tryThing_239 : decode cX10_tryThing 239 = .ok (.iadd, 1) := by decide +kernel
theorem dX10_tryThing_240 : decode cX10_tryThing 240 = .ok (.iload_n 2, 1) := by decide +kernel
theorem dX10_tryThing_241 : decode cX10_tryThing 241 = .ok (.iadd, 1) := by decide +kernel
theorem dX10_tryThing_242 : decode cX10_tryThing 242 = .ok (.iaload, 1) := by decide +kernel
theorem dX10_tryThing_243 : decode cX10_tryThing 243 = .ok (.iconst 2, 1) := by decide +kernel
theorem dX10_tryThing_244 : decode cX10_tryThing 244 = .ok (.if_icmp .le 7, 3) := by decide +kernel
theorem dX10_tryThing_247 : decode cX10_tryThing 247 = .ok (.iconst 1, 1) := by decide +kernel
theorem dX10_tryThing_248 : decode cX10_tryThing 248 = .ok (.goto 4, 3) := by decide +kernel
theorem dX10_tryThing_251 : decode cX10_tryThing 251 = .ok (.iconst 0, 1) := by decide +kernel
theorem dX10_tryThing_252 : decode cX10_tryThing 252 = .ok (.ireturn, 1) := by decide +kernel
theorem dX10_tryThing_253 : decode cX10_tryThing 253 = .ok (.aload_n 0, 1) := by decide +kernel
theorem dX10_tryThing_254 : decode cX10_tryThing 254 = .ok (.iload_n 2, 1) := by decide +kernel
theorem dX10_tryThing_255 : decode cX10_tryThing 255 = .ok (.invokevirtual 115, 3) := by decide +kernel
theorem dX10_tryThing_258 : decode cX10_tryThing 258 = .ok (.ifCond .eq 20, 3) := by decide +kernel
theorem dX10_tryThing_261 : decode cX10_tryThing 261 = .ok (.aload_n 0, 1) := by decide +kernel
theorem dX10_tryThing_262 : decode cX10_tryThing 262 = .ok (.getfield 16, 3) := by decide +kernel
theorem dX10_tryThing_265 : decode cX10_tryThing 265 = .ok (.bipush 55, 2) := by decide +kernel
theorem dX10_tryThing_267 : decode cX10_tryThing 267 = .ok (.iload_n 2, 1) := by decide +kernel
theorem dX10_tryThing_268 : decode cX10_tryThing 268 = .ok (.iadd, 1) := by decide +kernel
theorem dX10_tryThing_269 : decode cX10_tryThing 269 = .ok (.iaload, 1) := by decide +kernel
theorem dX10_tryThing_270 : decode cX10_tryThing 270 = .ok (.iload_n 3, 1) := by decide +kernel
theorem dX10_tryThing_271 : decode cX10_tryThing 271 = .ok (.if_icmp .lt 7, 3) := by decide +kernel
theorem dX10_tryThing_274 : decode cX10_tryThing 274 = .ok (.iconst 1, 1) := by decide +kernel
theorem dX10_tryThing_275 : decode cX10_tryThing 275 = .ok (.goto 4, 3) := by decide +kernel
theorem dX10_tryThing_278 : decode cX10_tryThing 278 = .ok (.iconst 0, 1) := by decide +kernel
theorem dX10_tryThing_279 : decode cX10_tryThing 279 = .ok (.ireturn, 1) := by decide +kernel
theorem dX10_tryThing_280 : decode cX10_tryThing 280 = .ok (.iload_n 3, 1) := by decide +kernel
theorem dX10_tryThing_281 : decode cX10_tryThing 281 = .ok (.ifCond .ne 23, 3) := by decide +kernel
theorem dX10_tryThing_284 : decode cX10_tryThing 284 = .ok (.aload_n 0, 1) := by decide +kernel
theorem dX10_tryThing_285 : decode cX10_tryThing 285 = .ok (.iload_n 2, 1) := by decide +kernel
theorem dX10_tryThing_286 : decode cX10_tryThing 286 = .ok (.invokevirtual 115, 3) := by decide +kernel
theorem dX10_tryThing_289 : decode cX10_tryThing 289 = .ok (.ifCond .eq 15, 3) := by decide +kernel
theorem dX10_tryThing_292 : decode cX10_tryThing 292 = .ok (.aload_n 0, 1) := by decide +kernel
theorem dX10_tryThing_293 : decode cX10_tryThing 293 = .ok (.iload_n 2, 1) := by decide +kernel
theorem dX10_tryThing_294 : decode cX10_tryThing 294 = .ok (.invokevirtual 177, 3) := by decide +kernel
theorem dX10_tryThing_297 : decode cX10_tryThing 297 = .ok (.ifCond .eq 7, 3) := by decide +kernel
theorem dX10_tryThing_300 : decode cX10_tryThing 300 = .ok (.iconst 1, 1) := by decide +kernel
theorem dX10_tryThing_301 : decode cX10_tryThing 301 = .ok (.goto 4, 3) := by decide +kernel
theorem dX10_tryThing_304 : decode cX10_tryThing 304 = .ok (.iconst 0, 1) := by decide +kernel
theorem dX10_tryThing_305 : decode cX10_tryThing 305 = .ok (.ireturn, 1) := by decide +kernel
theorem dX10_tryThing_306 : decode cX10_tryThing 306 = .ok (.iconst 0, 1) := by decide +kernel
theorem dX10_tryThing_307 : decode cX10_tryThing 307 = .ok (.ireturn, 1) := by decide +kernel
theorem dX10_writesAll_0 : decode cX10_writesAll 0 = .ok (.aload_n 0, 1) := by decide +kernel
theorem dX10_writesAll_1 : decode cX10_writesAll 1 = .ok (.iconst 1, 1) := by decide +kernel
theorem dX10_writesAll_2 : decode cX10_writesAll 2 = .ok (.iload_n 1, 1) := by decide +kernel
theorem dX10_writesAll_3 : decode cX10_writesAll 3 = .ok (.bipush 8, 2) := by decide +kernel
theorem dX10_writesAll_5 : decode cX10_writesAll 5 = .ok (.iconst 0, 1) := by decide +kernel
theorem dX10_writesAll_6 : decode cX10_writesAll 6 = .ok (.invokevirtual 143, 3) := by decide +kernel
theorem dX10_writesAll_9 : decode cX10_writesAll 9 = .ok (.pop, 1) := by decide +kernel
theorem dX10_writesAll_10 : decode cX10_writesAll 10 = .ok (.aload_n 0, 1) := by decide +kernel
theorem dX10_writesAll_11 : decode cX10_writesAll 11 = .ok (.getfield 130, 3) := by decide +kernel
theorem dX10_writesAll_14 : decode cX10_writesAll 14 = .ok (.aload_n 0, 1) := by decide +kernel
theorem dX10_writesAll_15 : decode cX10_writesAll 15 = .ok (.getfield 100, 3) := by decide +kernel
theorem dX10_writesAll_18 : decode cX10_writesAll 18 = .ok (.if_icmp .ne 7, 3) := by decide +kernel
theorem dX10_writesAll_21 : decode cX10_writesAll 21 = .ok (.iconst 1, 1) := by decide +kernel
theorem dX10_writesAll_22 : decode cX10_writesAll 22 = .ok (.goto 4, 3) := by decide +kernel
theorem dX10_writesAll_25 : decode cX10_writesAll 25 = .ok (.iconst 0, 1) := by decide +kernel
theorem dX10_writesAll_26 : decode cX10_writesAll 26 = .ok (.ireturn, 1) := by decide +kernel
theorem dX10_thousandTo_0 : decode cX10_thousandTo 0 = .ok (.iconst 3, 1) := by decide +kernel
theorem dX10_thousandTo_1 : decode cX10_thousandTo 1 = .ok (.iload_n 0, 1) := by decide +kernel
theorem dX10_thousandTo_2 : decode cX10_thousandTo 2 = .ok (.imul, 1) := by decide +kernel
theorem dX10_thousandTo_3 : decode cX10_thousandTo 3 = .ok (.invokestatic 94, 3) := by decide +kernel
theorem dX10_thousandTo_6 : decode cX10_thousandTo 6 = .ok (.lreturn, 1) := by decide +kernel
theorem dX10_judge_0 : decode cX10_judge 0 = .ok (.iload_n 1, 1) := by decide +kernel
theorem dX10_judge_1 : decode cX10_judge 1 = .ok (.i2l, 1) := by decide +kernel
theorem dX10_judge_2 : decode cX10_judge 2 = .ok (.lconst 1, 1) := by decide +kernel
theorem dX10_judge_3 : decode cX10_judge 3 = .ok (.ldc2_w 110, 3) := by decide +kernel
theorem dX10_judge_6 : decode cX10_judge 6 = .ok (.invokestatic 52, 3) := by decide +kernel
theorem dX10_judge_9 : decode cX10_judge 9 = .ok (.ifCond .eq 17, 3) := by decide +kernel
theorem dX10_judge_12 : decode cX10_judge 12 = .ok (.lload_n 2, 1) := by decide +kernel
theorem dX10_judge_13 : decode cX10_judge 13 = .ok (.lconst 0, 1) := by decide +kernel
theorem dX10_judge_14 : decode cX10_judge 14 = .ok (.iload_n 1, 1) := by decide +kernel
theorem dX10_judge_15 : decode cX10_judge 15 = .ok (.invokestatic 180, 3) := by decide +kernel
theorem dX10_judge_18 : decode cX10_judge 18 = .ok (.lconst 1, 1) := by decide +kernel
theorem dX10_judge_19 : decode cX10_judge 19 = .ok (.lsub, 1) := by decide +kernel
theorem dX10_judge_20 : decode cX10_judge 20 = .ok (.invokestatic 52, 3) := by decide +kernel
theorem dX10_judge_23 : decode cX10_judge 23 = .ok (.ifCond .ne 6, 3) := by decide +kernel
theorem dX10_judge_26 : decode cX10_judge 26 = .ok (.bipush (-2), 2) := by decide +kernel
theorem dX10_judge_28 : decode cX10_judge 28 = .ok (.ireturn, 1) := by decide +kernel
theorem dX10_judge_29 : decode cX10_judge 29 = .ok (.aload_n 0, 1) := by decide +kernel
theorem dX10_judge_30 : decode cX10_judge 30 = .ok (.invokevirtual 140, 3) := by decide +kernel
theorem dX10_judge_33 : decode cX10_judge 33 = .ok (.iconst 0, 1) := by decide +kernel
theorem dX10_judge_34 : decode cX10_judge 34 = .ok (.istore 4, 2) := by decide +kernel
theorem dX10_judge_36 : decode cX10_judge 36 = .ok (.iload 4, 2) := by decide +kernel
theorem dX10_judge_38 : decode cX10_judge 38 = .ok (.iload_n 1, 1) := by decide +kernel
theorem dX10_judge_39 : decode cX10_judge 39 = .ok (.if_icmp .ge 55, 3) := by decide +kernel
theorem dX10_judge_42 : decode cX10_judge 42 = .ok (.lload_n 2, 1) := by decide +kernel
theorem dX10_judge_43 : decode cX10_judge 43 = .ok (.iload_n 1, 1) := by decide +kernel
theorem dX10_judge_44 : decode cX10_judge 44 = .ok (.iconst 1, 1) := by decide +kernel
theorem dX10_judge_45 : decode cX10_judge 45 = .ok (.isub, 1) := by decide +kernel
theorem dX10_judge_46 : decode cX10_judge 46 = .ok (.iload 4, 2) := by decide +kernel
theorem dX10_judge_48 : decode cX10_judge 48 = .ok (.isub, 1) := by decide +kernel
theorem dX10_judge_49 : decode cX10_judge 49 = .ok (.invokestatic 180, 3) := by decide +kernel
theorem dX10_judge_52 : decode cX10_judge 52 = .ok (.ldiv, 1) := by decide +kernel
theorem dX10_judge_53 : decode cX10_judge 53 = .ok (.ldc2_w 183, 3) := by decide +kernel
theorem dX10_judge_56 : decode cX10_judge 56 = .ok (.lrem, 1) := by decide +kernel
theorem dX10_judge_57 : decode cX10_judge 57 = .ok (.l2i, 1) := by decide +kernel
theorem dX10_judge_58 : decode cX10_judge 58 = .ok (.istore 5, 2) := by decide +kernel
theorem dX10_judge_60 : decode cX10_judge 60 = .ok (.aload_n 0, 1) := by decide +kernel
theorem dX10_judge_61 : decode cX10_judge 61 = .ok (.iload 5, 2) := by decide +kernel
theorem dX10_judge_63 : decode cX10_judge 63 = .ok (.bipush 100, 2) := by decide +kernel
theorem dX10_judge_65 : decode cX10_judge 65 = .ok (.idiv, 1) := by decide +kernel
theorem dX10_judge_66 : decode cX10_judge 66 = .ok (.iload 5, 2) := by decide +kernel
theorem dX10_judge_68 : decode cX10_judge 68 = .ok (.bipush 10, 2) := by decide +kernel
theorem dX10_judge_70 : decode cX10_judge 70 = .ok (.idiv, 1) := by decide +kernel
theorem dX10_judge_71 : decode cX10_judge 71 = .ok (.bipush 10, 2) := by decide +kernel
theorem dX10_judge_73 : decode cX10_judge 73 = .ok (.irem, 1) := by decide +kernel
theorem dX10_judge_74 : decode cX10_judge 74 = .ok (.iload 5, 2) := by decide +kernel
theorem dX10_judge_76 : decode cX10_judge 76 = .ok (.bipush 10, 2) := by decide +kernel
theorem dX10_judge_78 : decode cX10_judge 78 = .ok (.irem, 1) := by decide +kernel
theorem dX10_judge_79 : decode cX10_judge 79 = .ok (.invokevirtual 185, 3) := by decide +kernel
theorem dX10_judge_82 : decode cX10_judge 82 = .ok (.ifCond .ne 6, 3) := by decide +kernel
theorem dX10_judge_85 : decode cX10_judge 85 = .ok (.iload 4, 2) := by decide +kernel
theorem dX10_judge_87 : decode cX10_judge 87 = .ok (.ireturn, 1) := by decide +kernel
theorem dX10_judge_88 : decode cX10_judge 88 = .ok (.iinc 4 1, 3) := by decide +kernel
theorem dX10_judge_91 : decode cX10_judge 91 = .ok (.goto (-55), 3) := by decide +kernel
theorem dX10_judge_94 : decode cX10_judge 94 = .ok (.bipush (-9), 2) := by decide +kernel
theorem dX10_judge_96 : decode cX10_judge 96 = .ok (.ireturn, 1) := by decide +kernel
theorem dX10_see_0 : decode cX10_see 0 = .ok (.iload_n 1, 1) := by decide +kernel
theorem dX10_see_1 : decode cX10_see 1 = .ok (.i2l, 1) := by decide +kernel
theorem dX10_see_2 : decode cX10_see 2 = .ok (.lconst 0, 1) := by decide +kernel
theorem dX10_see_3 : decode cX10_see 3 = .ok (.ldc2_w 98, 3) := by decide +kernel
theorem dX10_see_6 : decode cX10_see 6 = .ok (.invokestatic 52, 3) := by decide +kernel
theorem dX10_see_9 : decode cX10_see 9 = .ok (.ifCond .eq 15, 3) := by decide +kernel
theorem dX10_see_12 : decode cX10_see 12 = .ok (.iload_n 2, 1) := by decide +kernel
theorem dX10_see_13 : decode cX10_see 13 = .ok (.i2l, 1) := by decide +kernel
theorem dX10_see_14 : decode cX10_see 14 = .ok (.lconst 0, 1) := by decide +kernel
theorem dX10_see_15 : decode cX10_see 15 = .ok (.ldc2_w 188, 3) := by decide +kernel
theorem dX10_see_18 : decode cX10_see 18 = .ok (.invokestatic 52, 3) := by decide +kernel
theorem dX10_see_21 : decode cX10_see 21 = .ok (.ifCond .ne 6, 3) := by decide +kernel
theorem dX10_see_24 : decode cX10_see 24 = .ok (.bipush (-2), 2) := by decide +kernel
theorem dX10_see_26 : decode cX10_see 26 = .ok (.ireturn, 1) := by decide +kernel
theorem dX10_see_27 : decode cX10_see 27 = .ok (.aload_n 0, 1) := by decide +kernel
theorem dX10_see_28 : decode cX10_see 28 = .ok (.getfield 190, 3) := by decide +kernel
theorem dX10_see_31 : decode cX10_see 31 = .ok (.bipush 6, 2) := by decide +kernel
theorem dX10_see_33 : decode cX10_see 33 = .ok (.if_icmp .ne 6, 3) := by decide +kernel
theorem dX10_see_36 : decode cX10_see 36 = .ok (.bipush (-4), 2) := by decide +kernel
theorem dX10_see_38 : decode cX10_see 38 = .ok (.ireturn, 1) := by decide +kernel
theorem dX10_see_39 : decode cX10_see 39 = .ok (.aload_n 0, 1) := by decide +kernel
theorem dX10_see_40 : decode cX10_see 40 = .ok (.getfield 37, 3) := by decide +kernel
theorem dX10_see_43 : decode cX10_see 43 = .ok (.aload_n 0, 1) := by decide +kernel
theorem dX10_see_44 : decode cX10_see 44 = .ok (.getfield 190, 3) := by decide +kernel
theorem dX10_see_47 : decode cX10_see 47 = .ok (.iload_n 1, 1) := by decide +kernel
theorem dX10_see_48 : decode cX10_see 48 = .ok (.iastore, 1) := by decide +kernel
theorem dX10_see_49 : decode cX10_see 49 = .ok (.aload_n 0, 1) := by decide +kernel
theorem dX10_see_50 : decode cX10_see 50 = .ok (.getfield 40, 3) := by decide +kernel
theorem dX10_see_53 : decode cX10_see 53 = .ok (.aload_n 0, 1) := by decide +kernel
theorem dX10_see_54 : decode cX10_see 54 = .ok (.getfield 190, 3) := by decide +kernel
theorem dX10_see_57 : decode cX10_see 57 = .ok (.iload_n 2, 1) := by decide +kernel
theorem dX10_see_58 : decode cX10_see 58 = .ok (.iastore, 1) := by decide +kernel
theorem dX10_see_59 : decode cX10_see 59 = .ok (.aload_n 0, 1) := by decide +kernel
theorem dX10_see_60 : decode cX10_see 60 = .ok (.dup, 1) := by decide +kernel
theorem dX10_see_61 : decode cX10_see 61 = .ok (.getfield 190, 3) := by decide +kernel
theorem dX10_see_64 : decode cX10_see 64 = .ok (.iconst 1, 1) := by decide +kernel
theorem dX10_see_65 : decode cX10_see 65 = .ok (.iadd, 1) := by decide +kernel
theorem dX10_see_66 : decode cX10_see 66 = .ok (.putfield 190, 3) := by decide +kernel
theorem dX10_see_69 : decode cX10_see 69 = .ok (.aload_n 0, 1) := by decide +kernel
theorem dX10_see_70 : decode cX10_see 70 = .ok (.getfield 190, 3) := by decide +kernel
theorem dX10_see_73 : decode cX10_see 73 = .ok (.ireturn, 1) := by decide +kernel
theorem dX10_unsee_0 : decode cX10_unsee 0 = .ok (.aload_n 0, 1) := by decide +kernel
theorem dX10_unsee_1 : decode cX10_unsee 1 = .ok (.getfield 190, 3) := by decide +kernel
theorem dX10_unsee_4 : decode cX10_unsee 4 = .ok (.istore_n 1, 1) := by decide +kernel
theorem dX10_unsee_5 : decode cX10_unsee 5 = .ok (.aload_n 0, 1) := by decide +kernel
theorem dX10_unsee_6 : decode cX10_unsee 6 = .ok (.iconst 0, 1) := by decide +kernel
theorem dX10_unsee_7 : decode cX10_unsee 7 = .ok (.putfield 190, 3) := by decide +kernel
theorem dX10_unsee_10 : decode cX10_unsee 10 = .ok (.iload_n 1, 1) := by decide +kernel
theorem dX10_unsee_11 : decode cX10_unsee 11 = .ok (.ireturn, 1) := by decide +kernel
theorem dX10_nibs_0 : decode cX10_nibs 0 = .ok (.iload_n 1, 1) := by decide +kernel
theorem dX10_nibs_1 : decode cX10_nibs 1 = .ok (.i2l, 1) := by decide +kernel
theorem dX10_nibs_2 : decode cX10_nibs 2 = .ok (.lconst 0, 1) := by decide +kernel
theorem dX10_nibs_3 : decode cX10_nibs 3 = .ok (.lconst 1, 1) := by decide +kernel
theorem dX10_nibs_4 : decode cX10_nibs 4 = .ok (.invokestatic 52, 3) := by decide +kernel
theorem dX10_nibs_7 : decode cX10_nibs 7 = .ok (.ifCond .ne 6, 3) := by decide +kernel
theorem dX10_nibs_10 : decode cX10_nibs 10 = .ok (.bipush (-2), 2) := by decide +kernel
theorem dX10_nibs_12 : decode cX10_nibs 12 = .ok (.ireturn, 1) := by decide +kernel
theorem dX10_nibs_13 : decode cX10_nibs 13 = .ok (.iconst 0, 1) := by decide +kernel
theorem dX10_nibs_14 : decode cX10_nibs 14 = .ok (.istore_n 2, 1) := by decide +kernel
theorem dX10_nibs_15 : decode cX10_nibs 15 = .ok (.bipush (-9), 2) := by decide +kernel
theorem dX10_nibs_17 : decode cX10_nibs 17 = .ok (.istore_n 3, 1) := by decide +kernel
theorem dX10_nibs_18 : decode cX10_nibs 18 = .ok (.iconst 0, 1) := by decide +kernel
theorem dX10_nibs_19 : decode cX10_nibs 19 = .ok (.istore 4, 2) := by decide +kernel
theorem dX10_nibs_21 : decode cX10_nibs 21 = .ok (.iload 4, 2) := by decide +kernel
theorem dX10_nibs_23 : decode cX10_nibs 23 = .ok (.bipush 49, 2) := by decide +kernel
theorem dX10_nibs_25 : decode cX10_nibs 25 = .ok (.if_icmp .ge 155, 3) := by decide +kernel
theorem dX10_nibs_28 : decode cX10_nibs 28 = .ok (.iload 4, 2) := by decide +kernel
theorem dX10_nibs_30 : decode cX10_nibs 30 = .ok (.bipush 7, 2) := by decide +kernel
theorem dX10_nibs_32 : decode cX10_nibs 32 = .ok (.idiv, 1) := by decide +kernel
theorem dX10_nibs_33 : decode cX10_nibs 33 = .ok (.iconst 3, 1) := by decide +kernel
theorem dX10_nibs_34 : decode cX10_nibs 34 = .ok (.isub, 1) := by decide +kernel
theorem dX10_nibs_35 : decode cX10_nibs 35 = .ok (.istore 5, 2) := by decide +kernel
theorem dX10_nibs_37 : decode cX10_nibs 37 = .ok (.iload 4, 2) := by decide +kernel
theorem dX10_nibs_39 : decode cX10_nibs 39 = .ok (.bipush 7, 2) := by decide +kernel
theorem dX10_nibs_41 : decode cX10_nibs 41 = .ok (.irem, 1) := by decide +kernel
theorem dX10_nibs_42 : decode cX10_nibs 42 = .ok (.iconst 3, 1) := by decide +kernel
theorem dX10_nibs_43 : decode cX10_nibs 43 = .ok (.isub, 1) := by decide +kernel
theorem dX10_nibs_44 : decode cX10_nibs 44 = .ok (.istore 6, 2) := by decide +kernel
theorem dX10_nibs_46 : decode cX10_nibs 46 = .ok (.iload 5, 2) := by decide +kernel
theorem dX10_nibs_48 : decode cX10_nibs 48 = .ok (.ifCond .ne 8, 3) := by decide +kernel
theorem dX10_nibs_51 : decode cX10_nibs 51 = .ok (.iload 6, 2) := by decide +kernel
theorem dX10_nibs_53 : decode cX10_nibs 53 = .ok (.ifCond .eq 7, 3) := by decide +kernel
theorem dX10_nibs_56 : decode cX10_nibs 56 = .ok (.iconst 1, 1) := by decide +kernel
theorem dX10_nibs_57 : decode cX10_nibs 57 = .ok (.goto 4, 3) := by decide +kernel
theorem dX10_nibs_60 : decode cX10_nibs 60 = .ok (.iconst 0, 1) := by decide +kernel
theorem dX10_nibs_61 : decode cX10_nibs 61 = .ok (.istore 7, 2) := by decide +kernel
theorem dX10_nibs_63 : decode cX10_nibs 63 = .ok (.iconst 0, 1) := by decide +kernel
theorem dX10_nibs_64 : decode cX10_nibs 64 = .ok (.istore 8, 2) := by decide +kernel
theorem dX10_nibs_66 : decode cX10_nibs 66 = .ok (.iload 8, 2) := by decide +kernel
theorem dX10_nibs_68 : decode cX10_nibs 68 = .ok (.aload_n 0, 1) := by decide +kernel
theorem dX10_nibs_69 : decode cX10_nibs 69 = .ok (.getfield 190, 3) := by decide +kernel
theorem dX10_nibs_72 : decode cX10_nibs 72 = .ok (.if_icmp .ge 61, 3) := by decide +kernel
theorem dX10_nibs_75 : decode cX10_nibs 75 = .ok (.iload 7, 2) := by decide +kernel
theorem dX10_nibs_77 : decode cX10_nibs 77 = .ok (.ifCond .eq 47, 3) := by decide +kernel
theorem dX10_nibs_80 : decode cX10_nibs 80 = .ok (.aload_n 0, 1) := by decide +kernel
theorem dX10_nibs_81 : decode cX10_nibs 81 = .ok (.getfield 37, 3) := by decide +kernel
theorem dX10_nibs_84 : decode cX10_nibs 84 = .ok (.iload 8, 2) := by decide +kernel
theorem dX10_nibs_86 : decode cX10_nibs 86 = .ok (.iaload, 1) := by decide +kernel
theorem dX10_nibs_87 : decode cX10_nibs 87 = .ok (.invokestatic 103, 3) := by decide +kernel
theorem dX10_nibs_90 : decode cX10_nibs 90 = .ok (.iload 6, 2) := by decide +kernel
theorem dX10_nibs_92 : decode cX10_nibs 92 = .ok (.imul, 1) := by decide +kernel
theorem dX10_nibs_93 : decode cX10_nibs 93 = .ok (.aload_n 0, 1) := by decide +kernel
theorem dX10_nibs_94 : decode cX10_nibs 94 = .ok (.getfield 37, 3) := by decide +kernel
theorem dX10_nibs_97 : decode cX10_nibs 97 = .ok (.iload 8, 2) := by decide +kernel
theorem dX10_nibs_99 : decode cX10_nibs 99 = .ok (.iaload, 1) := by decide +kernel
theorem dX10_nibs_100 : decode cX10_nibs 100 = .ok (.invokestatic 107, 3) := by decide +kernel
theorem dX10_nibs_103 : decode cX10_nibs 103 = .ok (.iload 5, 2) := by decide +kernel
theorem dX10_nibs_105 : decode cX10_nibs 105 = .ok (.imul, 1) := by decide +kernel
theorem dX10_nibs_106 : decode cX10_nibs 106 = .ok (.isub, 1) := by decide +kernel
theorem dX10_nibs_107 : decode cX10_nibs 107 = .ok (.invokestatic 112, 3) := by decide +kernel
theorem dX10_nibs_110 : decode cX10_nibs 110 = .ok (.aload_n 0, 1) := by decide +kernel
theorem dX10_nibs_111 : decode cX10_nibs 111 = .ok (.getfield 40, 3) := by decide +kernel
theorem dX10_nibs_114 : decode cX10_nibs 114 = .ok (.iload 8, 2) := by decide +kernel
theorem dX10_nibs_116 : decode cX10_nibs 116 = .ok (.iaload, 1) := by decide +kernel
theorem dX10_nibs_117 : decode cX10_nibs 117 = .ok (.if_icmp .ne 7, 3) := by decide +kernel
theorem dX10_nibs_120 : decode cX10_nibs 120 = .ok (.iconst 1, 1) := by decide +kernel
theorem dX10_nibs_121 : decode cX10_nibs 121 = .ok (.goto 4, 3) := by decide +kernel
theorem dX10_nibs_124 : decode cX10_nibs 124 = .ok (.iconst 0, 1) := by decide +kernel
theorem dX10_nibs_125 : decode cX10_nibs 125 = .ok (.istore 7, 2) := by decide +kernel
theorem dX10_nibs_127 : decode cX10_nibs 127 = .ok (.iinc 8 1, 3) := by decide +kernel
theorem dX10_nibs_130 : decode cX10_nibs 130 = .ok (.goto (-64), 3) := by decide +kernel
theorem dX10_nibs_133 : decode cX10_nibs 133 = .ok (.iload 7, 2) := by decide +kernel
theorem dX10_nibs_135 : decode cX10_nibs 135 = .ok (.ifCond .eq 24, 3) := by decide +kernel
theorem dX10_nibs_138 : decode cX10_nibs 138 = .ok (.iload_n 2, 1) := by decide +kernel
theorem dX10_nibs_139 : decode cX10_nibs 139 = .ok (.ifCond .ne 20, 3) := by decide +kernel
theorem dX10_nibs_142 : decode cX10_nibs 142 = .ok (.bipush 10, 2) := by decide +kernel
theorem dX10_nibs_144 : decode cX10_nibs 144 = .ok (.iload 4, 2) := by decide +kernel
theorem dX10_nibs_146 : decode cX10_nibs 146 = .ok (.bipush 7, 2) := by decide +kernel
theorem dX10_nibs_148 : decode cX10_nibs 148 = .ok (.idiv, 1) := by decide +kernel
theorem dX10_nibs_149 : decode cX10_nibs 149 = .ok (.imul, 1) := by decide +kernel
theorem dX10_nibs_150 : decode cX10_nibs 150 = .ok (.iload 4, 2) := by decide +kernel
theorem dX10_nibs_152 : decode cX10_nibs 152 = .ok (.bipush 7, 2) := by decide +kernel
theorem dX10_nibs_154 : decode cX10_nibs 154 = .ok (.irem, 1) := by decide +kernel
theorem dX10_nibs_155 : decode cX10_nibs 155 = .ok (.iadd, 1) := by decide +kernel
theorem dX10_nibs_156 : decode cX10_nibs 156 = .ok (.goto 4, 3) := by decide +kernel
theorem dX10_nibs_159 : decode cX10_nibs 159 = .ok (.iload_n 3, 1) := by decide +kernel
theorem dX10_nibs_160 : decode cX10_nibs 160 = .ok (.istore_n 3, 1) := by decide +kernel
theorem dX10_nibs_161 : decode cX10_nibs 161 = .ok (.iload_n 2, 1) := by decide +kernel
theorem dX10_nibs_162 : decode cX10_nibs 162 = .ok (.iload 7, 2) := by decide +kernel
theorem dX10_nibs_164 : decode cX10_nibs 164 = .ok (.ifCond .eq 7, 3) := by decide +kernel
theorem dX10_nibs_167 : decode cX10_nibs 167 = .ok (.iconst 1, 1) := by decide +kernel
theorem dX10_nibs_168 : decode cX10_nibs 168 = .ok (.goto 4, 3) := by decide +kernel
theorem dX10_nibs_171 : decode cX10_nibs 171 = .ok (.iconst 0, 1) := by decide +kernel
theorem dX10_nibs_172 : decode cX10_nibs 172 = .ok (.iadd, 1) := by decide +kernel
theorem dX10_nibs_173 : decode cX10_nibs 173 = .ok (.istore_n 2, 1) := by decide +kernel
theorem dX10_nibs_174 : decode cX10_nibs 174 = .ok (.iinc 4 1, 3) := by decide +kernel
theorem dX10_nibs_177 : decode cX10_nibs 177 = .ok (.goto (-156), 3) := by decide +kernel
theorem dX10_nibs_180 : decode cX10_nibs 180 = .ok (.iload_n 1, 1) := by decide +kernel
theorem dX10_nibs_181 : decode cX10_nibs 181 = .ok (.ifCond .ne 7, 3) := by decide +kernel
theorem dX10_nibs_184 : decode cX10_nibs 184 = .ok (.iload_n 2, 1) := by decide +kernel
theorem dX10_nibs_185 : decode cX10_nibs 185 = .ok (.goto 4, 3) := by decide +kernel
theorem dX10_nibs_188 : decode cX10_nibs 188 = .ok (.iload_n 3, 1) := by decide +kernel
theorem dX10_nibs_189 : decode cX10_nibs 189 = .ok (.ireturn, 1) := by decide +kernel
theorem dX10_factorial_0 : decode cX10_factorial 0 = .ok (.iconst 1, 1) := by decide +kernel
theorem dX10_factorial_1 : decode cX10_factorial 1 = .ok (.istore_n 1, 1) := by decide +kernel
theorem dX10_factorial_2 : decode cX10_factorial 2 = .ok (.iconst 2, 1) := by decide +kernel
theorem dX10_factorial_3 : decode cX10_factorial 3 = .ok (.istore_n 2, 1) := by decide +kernel
theorem dX10_factorial_4 : decode cX10_factorial 4 = .ok (.iload_n 2, 1) := by decide +kernel
theorem dX10_factorial_5 : decode cX10_factorial 5 = .ok (.iload_n 0, 1) := by decide +kernel
theorem dX10_factorial_6 : decode cX10_factorial 6 = .ok (.if_icmp .gt 13, 3) := by decide +kernel
theorem dX10_factorial_9 : decode cX10_factorial 9 = .ok (.iload_n 1, 1) := by decide +kernel
theorem dX10_factorial_10 : decode cX10_factorial 10 = .ok (.iload_n 2, 1) := by decide +kernel
theorem dX10_factorial_11 : decode cX10_factorial 11 = .ok (.imul, 1) := by decide +kernel
theorem dX10_factorial_12 : decode cX10_factorial 12 = .ok (.istore_n 1, 1) := by decide +kernel
theorem dX10_factorial_13 : decode cX10_factorial 13 = .ok (.iinc 2 1, 3) := by decide +kernel
theorem dX10_factorial_16 : decode cX10_factorial 16 = .ok (.goto (-12), 3) := by decide +kernel
theorem dX10_factorial_19 : decode cX10_factorial 19 = .ok (.iload_n 1, 1) := by decide +kernel
theorem dX10_factorial_20 : decode cX10_factorial 20 = .ok (.ireturn, 1) := by decide +kernel
theorem dX10_common_0 : decode cX10_common 0 = .ok (.iload_n 0, 1) := by decide +kernel
theorem dX10_common_1 : decode cX10_common 1 = .ok (.ifCond .ge 8, 3) := by decide +kernel
theorem dX10_common_4 : decode cX10_common 4 = .ok (.iload_n 0, 1) := by decide +kernel
theorem dX10_common_5 : decode cX10_common 5 = .ok (.ineg, 1) := by decide +kernel
theorem dX10_common_6 : decode cX10_common 6 = .ok (.goto 4, 3) := by decide +kernel
theorem dX10_common_9 : decode cX10_common 9 = .ok (.iload_n 0, 1) := by decide +kernel
theorem dX10_common_10 : decode cX10_common 10 = .ok (.istore_n 2, 1) := by decide +kernel
theorem dX10_common_11 : decode cX10_common 11 = .ok (.iload_n 1, 1) := by decide +kernel
theorem dX10_common_12 : decode cX10_common 12 = .ok (.istore_n 3, 1) := by decide +kernel
theorem dX10_common_13 : decode cX10_common 13 = .ok (.iload_n 3, 1) := by decide +kernel
theorem dX10_common_14 : decode cX10_common 14 = .ok (.ifCond .eq 16, 3) := by decide +kernel
theorem dX10_common_17 : decode cX10_common 17 = .ok (.iload_n 2, 1) := by decide +kernel
theorem dX10_common_18 : decode cX10_common 18 = .ok (.iload_n 3, 1) := by decide +kernel
theorem dX10_common_19 : decode cX10_common 19 = .ok (.irem, 1) := by decide +kernel
theorem dX10_common_20 : decode cX10_common 20 = .ok (.istore 4, 2) := by decide +kernel
theorem dX10_common_22 : decode cX10_common 22 = .ok (.iload_n 3, 1) := by decide +kernel
theorem dX10_common_23 : decode cX10_common 23 = .ok (.istore_n 2, 1) := by decide +kernel
theorem dX10_common_24 : decode cX10_common 24 = .ok (.iload 4, 2) := by decide +kernel
theorem dX10_common_26 : decode cX10_common 26 = .ok (.istore_n 3, 1) := by decide +kernel
theorem dX10_common_27 : decode cX10_common 27 = .ok (.goto (-14), 3) := by decide +kernel
theorem dX10_common_30 : decode cX10_common 30 = .ok (.iload_n 2, 1) := by decide +kernel
theorem dX10_common_31 : decode cX10_common 31 = .ok (.ireturn, 1) := by decide +kernel
theorem dX10_blackBy_0 : decode cX10_blackBy 0 = .ok (.aload_n 0, 1) := by decide +kernel
theorem dX10_blackBy_1 : decode cX10_blackBy 1 = .ok (.invokevirtual 140, 3) := by decide +kernel
theorem dX10_blackBy_4 : decode cX10_blackBy 4 = .ok (.iconst 0, 1) := by decide +kernel
theorem dX10_blackBy_5 : decode cX10_blackBy 5 = .ok (.istore_n 2, 1) := by decide +kernel
theorem dX10_blackBy_6 : decode cX10_blackBy 6 = .ok (.iload_n 2, 1) := by decide +kernel
theorem dX10_blackBy_7 : decode cX10_blackBy 7 = .ok (.aload_n 0, 1) := by decide +kernel
theorem dX10_blackBy_8 : decode cX10_blackBy 8 = .ok (.getfield 84, 3) := by decide +kernel
theorem dX10_blackBy_11 : decode cX10_blackBy 11 = .ok (.if_icmp .ge 27, 3) := by decide +kernel
theorem dX10_blackBy_14 : decode cX10_blackBy 14 = .ok (.iload_n 1, 1) := by decide +kernel
theorem dX10_blackBy_15 : decode cX10_blackBy 15 = .ok (.iload_n 2, 1) := by decide +kernel
theorem dX10_blackBy_16 : decode cX10_blackBy 16 = .ok (.invokestatic 126, 3) := by decide +kernel
theorem dX10_blackBy_19 : decode cX10_blackBy 19 = .ok (.ifCond .eq 13, 3) := by decide +kernel
theorem dX10_blackBy_22 : decode cX10_blackBy 22 = .ok (.aload_n 0, 1) := by decide +kernel
theorem dX10_blackBy_23 : decode cX10_blackBy 23 = .ok (.iconst 1, 1) := by decide +kernel
theorem dX10_blackBy_24 : decode cX10_blackBy 24 = .ok (.iload_n 2, 1) := by decide +kernel
theorem dX10_blackBy_25 : decode cX10_blackBy 25 = .ok (.bipush 8, 2) := by decide +kernel
theorem dX10_blackBy_27 : decode cX10_blackBy 27 = .ok (.iconst 0, 1) := by decide +kernel
theorem dX10_blackBy_28 : decode cX10_blackBy 28 = .ok (.invokevirtual 143, 3) := by decide +kernel
theorem dX10_blackBy_31 : decode cX10_blackBy 31 = .ok (.pop, 1) := by decide +kernel
theorem dX10_blackBy_32 : decode cX10_blackBy 32 = .ok (.iinc 2 1, 3) := by decide +kernel
theorem dX10_blackBy_35 : decode cX10_blackBy 35 = .ok (.goto (-29), 3) := by decide +kernel
theorem dX10_blackBy_38 : decode cX10_blackBy 38 = .ok (.aload_n 0, 1) := by decide +kernel
theorem dX10_blackBy_39 : decode cX10_blackBy 39 = .ok (.iconst 1, 1) := by decide +kernel
theorem dX10_blackBy_40 : decode cX10_blackBy 40 = .ok (.invokevirtual 193, 3) := by decide +kernel
theorem dX10_blackBy_43 : decode cX10_blackBy 43 = .ok (.invokestatic 196, 3) := by decide +kernel
theorem dX10_blackBy_46 : decode cX10_blackBy 46 = .ok (.ireturn, 1) := by decide +kernel
theorem dX10_share_0 : decode cX10_share 0 = .ok (.aload_n 0, 1) := by decide +kernel
theorem dX10_share_1 : decode cX10_share 1 = .ok (.iload_n 1, 1) := by decide +kernel
theorem dX10_share_2 : decode cX10_share 2 = .ok (.invokevirtual 115, 3) := by decide +kernel
theorem dX10_share_5 : decode cX10_share 5 = .ok (.ifCond .ne 5, 3) := by decide +kernel
theorem dX10_share_8 : decode cX10_share 8 = .ok (.iconst (-1), 1) := by decide +kernel
theorem dX10_share_9 : decode cX10_share 9 = .ok (.ireturn, 1) := by decide +kernel
theorem dX10_share_10 : decode cX10_share 10 = .ok (.iconst 0, 1) := by decide +kernel
theorem dX10_share_11 : decode cX10_share 11 = .ok (.istore_n 3, 1) := by decide +kernel
theorem dX10_share_12 : decode cX10_share 12 = .ok (.iconst 0, 1) := by decide +kernel
theorem dX10_share_13 : decode cX10_share 13 = .ok (.istore 4, 2) := by decide +kernel
theorem dX10_share_15 : decode cX10_share 15 = .ok (.iload 4, 2) := by decide +kernel
theorem dX10_share_17 : decode cX10_share 17 = .ok (.iconst 1, 1) := by decide +kernel
theorem dX10_share_18 : decode cX10_share 18 = .ok (.aload_n 0, 1) := by decide +kernel
theorem dX10_share_19 : decode cX10_share 19 = .ok (.getfield 84, 3) := by decide +kernel
theorem dX10_share_22 : decode cX10_share 22 = .ok (.ishl, 1) := by decide +kernel
theorem dX10_share_23 : decode cX10_share 23 = .ok (.if_icmp .ge 67, 3) := by decide +kernel
theorem dX10_share_26 : decode cX10_share 26 = .ok (.iload 4, 2) := by decide +kernel
theorem dX10_share_28 : decode cX10_share 28 = .ok (.iload_n 1, 1) := by decide +kernel
theorem dX10_share_29 : decode cX10_share 29 = .ok (.invokestatic 126, 3) := by decide +kernel
theorem dX10_share_32 : decode cX10_share 32 = .ok (.ifCond .ne 52, 3) := by decide +kernel
theorem dX10_share_35 : decode cX10_share 35 = .ok (.iload 4, 2) := by decide +kernel
theorem dX10_share_37 : decode cX10_share 37 = .ok (.invokestatic 196, 3) := by decide +kernel
theorem dX10_share_40 : decode cX10_share 40 = .ok (.invokestatic 199, 3) := by decide +kernel
theorem dX10_share_43 : decode cX10_share 43 = .ok (.aload_n 0, 1) := by decide +kernel
theorem dX10_share_44 : decode cX10_share 44 = .ok (.getfield 84, 3) := by decide +kernel
theorem dX10_share_47 : decode cX10_share 47 = .ok (.iconst 1, 1) := by decide +kernel
theorem dX10_share_48 : decode cX10_share 48 = .ok (.isub, 1) := by decide +kernel
theorem dX10_share_49 : decode cX10_share 49 = .ok (.iload 4, 2) := by decide +kernel
theorem dX10_share_51 : decode cX10_share 51 = .ok (.invokestatic 196, 3) := by decide +kernel
theorem dX10_share_54 : decode cX10_share 54 = .ok (.isub, 1) := by decide +kernel
theorem dX10_share_55 : decode cX10_share 55 = .ok (.invokestatic 199, 3) := by decide +kernel
theorem dX10_share_58 : decode cX10_share 58 = .ok (.imul, 1) := by decide +kernel
theorem dX10_share_59 : decode cX10_share 59 = .ok (.istore 5, 2) := by decide +kernel
theorem dX10_share_61 : decode cX10_share 61 = .ok (.iload_n 3, 1) := by decide +kernel
theorem dX10_share_62 : decode cX10_share 62 = .ok (.iload 5, 2) := by decide +kernel
theorem dX10_share_64 : decode cX10_share 64 = .ok (.aload_n 0, 1) := by decide +kernel
theorem dX10_share_65 : decode cX10_share 65 = .ok (.iload 4, 2) := by decide +kernel
theorem dX10_share_67 : decode cX10_share 67 = .ok (.iconst 1, 1) := by decide +kernel
theorem dX10_share_68 : decode cX10_share 68 = .ok (.iload_n 1, 1) := by decide +kernel
theorem dX10_share_69 : decode cX10_share 69 = .ok (.ishl, 1) := by decide +kernel
theorem dX10_share_70 : decode cX10_share 70 = .ok (.ior, 1) := by decide +kernel
theorem dX10_share_71 : decode cX10_share 71 = .ok (.invokevirtual 202, 3) := by decide +kernel
theorem dX10_share_74 : decode cX10_share 74 = .ok (.aload_n 0, 1) := by decide +kernel
theorem dX10_share_75 : decode cX10_share 75 = .ok (.iload 4, 2) := by decide +kernel
theorem dX10_share_77 : decode cX10_share 77 = .ok (.invokevirtual 202, 3) := by decide +kernel
theorem dX10_share_80 : decode cX10_share 80 = .ok (.isub, 1) := by decide +kernel
theorem dX10_share_81 : decode cX10_share 81 = .ok (.imul, 1) := by decide +kernel
theorem dX10_share_82 : decode cX10_share 82 = .ok (.iadd, 1) := by decide +kernel
theorem dX10_share_83 : decode cX10_share 83 = .ok (.istore_n 3, 1) := by decide +kernel
theorem dX10_share_84 : decode cX10_share 84 = .ok (.iinc 4 1, 3) := by decide +kernel
theorem dX10_share_87 : decode cX10_share 87 = .ok (.goto (-72), 3) := by decide +kernel
theorem dX10_share_90 : decode cX10_share 90 = .ok (.iload_n 3, 1) := by decide +kernel
theorem dX10_share_91 : decode cX10_share 91 = .ok (.aload_n 0, 1) := by decide +kernel
theorem dX10_share_92 : decode cX10_share 92 = .ok (.getfield 84, 3) := by decide +kernel
theorem dX10_share_95 : decode cX10_share 95 = .ok (.invokestatic 199, 3) := by decide +kernel
theorem dX10_share_98 : decode cX10_share 98 = .ok (.invokestatic 205, 3) := by decide +kernel
theorem dX10_share_101 : decode cX10_share 101 = .ok (.istore 4, 2) := by decide +kernel
theorem dX10_share_103 : decode cX10_share 103 = .ok (.iload_n 2, 1) := by decide +kernel
theorem dX10_share_104 : decode cX10_share 104 = .ok (.ifCond .eq 10, 3) := by decide +kernel
theorem dX10_share_107 : decode cX10_share 107 = .ok (.iload_n 3, 1) := by decide +kernel
theorem dX10_share_108 : decode cX10_share 108 = .ok (.iload 4, 2) := by decide +kernel
theorem dX10_share_110 : decode cX10_share 110 = .ok (.idiv, 1) := by decide +kernel
theorem dX10_share_111 : decode cX10_share 111 = .ok (.goto 13, 3) := by decide +kernel
theorem dX10_share_114 : decode cX10_share 114 = .ok (.aload_n 0, 1) := by decide +kernel
theorem dX10_share_115 : decode cX10_share 115 = .ok (.getfield 84, 3) := by decide +kernel
theorem dX10_share_118 : decode cX10_share 118 = .ok (.invokestatic 199, 3) := by decide +kernel
theorem dX10_share_121 : decode cX10_share 121 = .ok (.iload 4, 2) := by decide +kernel
theorem dX10_share_123 : decode cX10_share 123 = .ok (.idiv, 1) := by decide +kernel
theorem dX10_share_124 : decode cX10_share 124 = .ok (.ireturn, 1) := by decide +kernel
theorem dX10_gain_0 : decode cX10_gain 0 = .ok (.aload_n 0, 1) := by decide +kernel
theorem dX10_gain_1 : decode cX10_gain 1 = .ok (.invokevirtual 140, 3) := by decide +kernel
theorem dX10_gain_4 : decode cX10_gain 4 = .ok (.iload_n 3, 1) := by decide +kernel
theorem dX10_gain_5 : decode cX10_gain 5 = .ok (.iconst 1, 1) := by decide +kernel
theorem dX10_gain_6 : decode cX10_gain 6 = .ok (.if_icmp .ne 13, 3) := by decide +kernel
theorem dX10_gain_9 : decode cX10_gain 9 = .ok (.aload_n 0, 1) := by decide +kernel
theorem dX10_gain_10 : decode cX10_gain 10 = .ok (.iconst 1, 1) := by decide +kernel
theorem dX10_gain_11 : decode cX10_gain 11 = .ok (.iload_n 1, 1) := by decide +kernel
theorem dX10_gain_12 : decode cX10_gain 12 = .ok (.bipush 8, 2) := by decide +kernel
theorem dX10_gain_14 : decode cX10_gain 14 = .ok (.iconst 0, 1) := by decide +kernel
theorem dX10_gain_15 : decode cX10_gain 15 = .ok (.invokevirtual 143, 3) := by decide +kernel
theorem dX10_gain_18 : decode cX10_gain 18 = .ok (.pop, 1) := by decide +kernel
theorem dX10_gain_19 : decode cX10_gain 19 = .ok (.iload 4, 2) := by decide +kernel
theorem dX10_gain_21 : decode cX10_gain 21 = .ok (.iconst 1, 1) := by decide +kernel
theorem dX10_gain_22 : decode cX10_gain 22 = .ok (.if_icmp .ne 13, 3) := by decide +kernel
theorem dX10_gain_25 : decode cX10_gain 25 = .ok (.aload_n 0, 1) := by decide +kernel
theorem dX10_gain_26 : decode cX10_gain 26 = .ok (.iconst 1, 1) := by decide +kernel
theorem dX10_gain_27 : decode cX10_gain 27 = .ok (.iload_n 2, 1) := by decide +kernel
theorem dX10_gain_28 : decode cX10_gain 28 = .ok (.bipush 8, 2) := by decide +kernel
theorem dX10_gain_30 : decode cX10_gain 30 = .ok (.iconst 0, 1) := by decide +kernel
theorem dX10_gain_31 : decode cX10_gain 31 = .ok (.invokevirtual 143, 3) := by decide +kernel
theorem dX10_gain_34 : decode cX10_gain 34 = .ok (.pop, 1) := by decide +kernel
theorem dX10_gain_35 : decode cX10_gain 35 = .ok (.aload_n 0, 1) := by decide +kernel
theorem dX10_gain_36 : decode cX10_gain 36 = .ok (.getfield 16, 3) := by decide +kernel
theorem dX10_gain_39 : decode cX10_gain 39 = .ok (.bipush 55, 2) := by decide +kernel
theorem dX10_gain_41 : decode cX10_gain 41 = .ok (.iload 5, 2) := by decide +kernel
theorem dX10_gain_43 : decode cX10_gain 43 = .ok (.iadd, 1) := by decide +kernel
theorem dX10_gain_44 : decode cX10_gain 44 = .ok (.iaload, 1) := by decide +kernel
theorem dX10_gain_45 : decode cX10_gain 45 = .ok (.iconst 2, 1) := by decide +kernel
theorem dX10_gain_46 : decode cX10_gain 46 = .ok (.aload_n 0, 1) := by decide +kernel
theorem dX10_gain_47 : decode cX10_gain 47 = .ok (.iconst 1, 1) := by decide +kernel
theorem dX10_gain_48 : decode cX10_gain 48 = .ok (.invokevirtual 193, 3) := by decide +kernel
theorem dX10_gain_51 : decode cX10_gain 51 = .ok (.invokestatic 196, 3) := by decide +kernel
theorem dX10_gain_54 : decode cX10_gain 54 = .ok (.imul, 1) := by decide +kernel
theorem dX10_gain_55 : decode cX10_gain 55 = .ok (.iadd, 1) := by decide +kernel
theorem dX10_gain_56 : decode cX10_gain 56 = .ok (.ireturn, 1) := by decide +kernel
theorem dX10_isRest_0 : decode cX10_isRest 0 = .ok (.aload_n 0, 1) := by decide +kernel
theorem dX10_isRest_1 : decode cX10_isRest 1 = .ok (.iload_n 1, 1) := by decide +kernel
theorem dX10_isRest_2 : decode cX10_isRest 2 = .ok (.iload_n 2, 1) := by decide +kernel
theorem dX10_isRest_3 : decode cX10_isRest 3 = .ok (.iconst 1, 1) := by decide +kernel
theorem dX10_isRest_4 : decode cX10_isRest 4 = .ok (.iload_n 3, 1) := by decide +kernel
theorem dX10_isRest_5 : decode cX10_isRest 5 = .ok (.isub, 1) := by decide +kernel
theorem dX10_isRest_6 : decode cX10_isRest 6 = .ok (.iload 4, 2) := by decide +kernel
theorem dX10_isRest_8 : decode cX10_isRest 8 = .ok (.iload_n 1, 1) := by decide +kernel
theorem dX10_isRest_9 : decode cX10_isRest 9 = .ok (.invokevirtual 208, 3) := by decide +kernel
theorem dX10_isRest_12 : decode cX10_isRest 12 = .ok (.aload_n 0, 1) := by decide +kernel
theorem dX10_isRest_13 : decode cX10_isRest 13 = .ok (.iload_n 1, 1) := by decide +kernel
theorem dX10_isRest_14 : decode cX10_isRest 14 = .ok (.iload_n 2, 1) := by decide +kernel
theorem dX10_isRest_15 : decode cX10_isRest 15 = .ok (.iload_n 3, 1) := by decide +kernel
theorem dX10_isRest_16 : decode cX10_isRest 16 = .ok (.iload 4, 2) := by decide +kernel
theorem dX10_isRest_18 : decode cX10_isRest 18 = .ok (.iload_n 1, 1) := by decide +kernel
theorem dX10_isRest_19 : decode cX10_isRest 19 = .ok (.invokevirtual 208, 3) := by decide +kernel
theorem dX10_isRest_22 : decode cX10_isRest 22 = .ok (.if_icmp .gt 32, 3) := by decide +kernel
theorem dX10_isRest_25 : decode cX10_isRest 25 = .ok (.aload_n 0, 1) := by decide +kernel
theorem dX10_isRest_26 : decode cX10_isRest 26 = .ok (.iload_n 1, 1) := by decide +kernel
theorem dX10_isRest_27 : decode cX10_isRest 27 = .ok (.iload_n 2, 1) := by decide +kernel
theorem dX10_isRest_28 : decode cX10_isRest 28 = .ok (.iload_n 3, 1) := by decide +kernel
theorem dX10_isRest_29 : decode cX10_isRest 29 = .ok (.iconst 1, 1) := by decide +kernel
theorem dX10_isRest_30 : decode cX10_isRest 30 = .ok (.iload 4, 2) := by decide +kernel
theorem dX10_isRest_32 : decode cX10_isRest 32 = .ok (.isub, 1) := by decide +kernel
theorem dX10_isRest_33 : decode cX10_isRest 33 = .ok (.iload_n 2, 1) := by decide +kernel
theorem dX10_isRest_34 : decode cX10_isRest 34 = .ok (.invokevirtual 208, 3) := by decide +kernel
theorem dX10_isRest_37 : decode cX10_isRest 37 = .ok (.aload_n 0, 1) := by decide +kernel
theorem dX10_isRest_38 : decode cX10_isRest 38 = .ok (.iload_n 1, 1) := by decide +kernel
theorem dX10_isRest_39 : decode cX10_isRest 39 = .ok (.iload_n 2, 1) := by decide +kernel
theorem dX10_isRest_40 : decode cX10_isRest 40 = .ok (.iload_n 3, 1) := by decide +kernel
theorem dX10_isRest_41 : decode cX10_isRest 41 = .ok (.iload 4, 2) := by decide +kernel
theorem dX10_isRest_43 : decode cX10_isRest 43 = .ok (.iload_n 2, 1) := by decide +kernel
theorem dX10_isRest_44 : decode cX10_isRest 44 = .ok (.invokevirtual 208, 3) := by decide +kernel
theorem dX10_isRest_47 : decode cX10_isRest 47 = .ok (.if_icmp .gt 7, 3) := by decide +kernel
theorem dX10_isRest_50 : decode cX10_isRest 50 = .ok (.iconst 1, 1) := by decide +kernel
theorem dX10_isRest_51 : decode cX10_isRest 51 = .ok (.goto 4, 3) := by decide +kernel
theorem dX10_isRest_54 : decode cX10_isRest 54 = .ok (.iconst 0, 1) := by decide +kernel
theorem dX10_isRest_55 : decode cX10_isRest 55 = .ok (.ireturn, 1) := by decide +kernel
theorem dX10_rests_0 : decode cX10_rests 0 = .ok (.aload_n 0, 1) := by decide +kernel
theorem dX10_rests_1 : decode cX10_rests 1 = .ok (.iload_n 1, 1) := by decide +kernel
theorem dX10_rests_2 : decode cX10_rests 2 = .ok (.invokevirtual 115, 3) := by decide +kernel
theorem dX10_rests_5 : decode cX10_rests 5 = .ok (.ifCond .eq 11, 3) := by decide +kernel
theorem dX10_rests_8 : decode cX10_rests 8 = .ok (.aload_n 0, 1) := by decide +kernel
theorem dX10_rests_9 : decode cX10_rests 9 = .ok (.iload_n 2, 1) := by decide +kernel
theorem dX10_rests_10 : decode cX10_rests 10 = .ok (.invokevirtual 115, 3) := by decide +kernel
theorem dX10_rests_13 : decode cX10_rests 13 = .ok (.ifCond .ne 5, 3) := by decide +kernel
theorem dX10_rests_16 : decode cX10_rests 16 = .ok (.iconst (-1), 1) := by decide +kernel
theorem dX10_rests_17 : decode cX10_rests 17 = .ok (.ireturn, 1) := by decide +kernel
theorem dX10_rests_18 : decode cX10_rests 18 = .ok (.iload_n 1, 1) := by decide +kernel
theorem dX10_rests_19 : decode cX10_rests 19 = .ok (.iload_n 2, 1) := by decide +kernel
theorem dX10_rests_20 : decode cX10_rests 20 = .ok (.if_icmp .eq 13, 3) := by decide +kernel
theorem dX10_rests_23 : decode cX10_rests 23 = .ok (.iload_n 3, 1) := by decide +kernel
theorem dX10_rests_24 : decode cX10_rests 24 = .ok (.i2l, 1) := by decide +kernel
theorem dX10_rests_25 : decode cX10_rests 25 = .ok (.lconst 0, 1) := by decide +kernel
theorem dX10_rests_26 : decode cX10_rests 26 = .ok (.lconst 1, 1) := by decide +kernel
theorem dX10_rests_27 : decode cX10_rests 27 = .ok (.invokestatic 52, 3) := by decide +kernel
theorem dX10_rests_30 : decode cX10_rests 30 = .ok (.ifCond .ne 6, 3) := by decide +kernel
theorem dX10_rests_33 : decode cX10_rests 33 = .ok (.bipush (-2), 2) := by decide +kernel
theorem dX10_rests_35 : decode cX10_rests 35 = .ok (.ireturn, 1) := by decide +kernel
theorem dX10_rests_36 : decode cX10_rests 36 = .ok (.iconst 0, 1) := by decide +kernel
theorem dX10_rests_37 : decode cX10_rests 37 = .ok (.istore 4, 2) := by decide +kernel
theorem dX10_rests_39 : decode cX10_rests 39 = .ok (.bipush (-9), 2) := by decide +kernel
theorem dX10_rests_41 : decode cX10_rests 41 = .ok (.istore 5, 2) := by decide +kernel
theorem dX10_rests_43 : decode cX10_rests 43 = .ok (.iconst 0, 1) := by decide +kernel
theorem dX10_rests_44 : decode cX10_rests 44 = .ok (.istore 6, 2) := by decide +kernel
theorem dX10_rests_46 : decode cX10_rests 46 = .ok (.iload 6, 2) := by decide +kernel
theorem dX10_rests_48 : decode cX10_rests 48 = .ok (.iconst 4, 1) := by decide +kernel
theorem dX10_rests_49 : decode cX10_rests 49 = .ok (.if_icmp .ge 53, 3) := by decide +kernel
theorem dX10_rests_52 : decode cX10_rests 52 = .ok (.aload_n 0, 1) := by decide +kernel
theorem dX10_rests_53 : decode cX10_rests 53 = .ok (.iload_n 1, 1) := by decide +kernel
theorem dX10_rests_54 : decode cX10_rests 54 = .ok (.iload_n 2, 1) := by decide +kernel
theorem dX10_rests_55 : decode cX10_rests 55 = .ok (.iload 6, 2) := by decide +kernel
theorem dX10_rests_57 : decode cX10_rests 57 = .ok (.iconst 2, 1) := by decide +kernel
theorem dX10_rests_58 : decode cX10_rests 58 = .ok (.idiv, 1) := by decide +kernel
theorem dX10_rests_59 : decode cX10_rests 59 = .ok (.iload 6, 2) := by decide +kernel
theorem dX10_rests_61 : decode cX10_rests 61 = .ok (.iconst 2, 1) := by decide +kernel
theorem dX10_rests_62 : decode cX10_rests 62 = .ok (.irem, 1) := by decide +kernel
theorem dX10_rests_63 : decode cX10_rests 63 = .ok (.invokevirtual 212, 3) := by decide +kernel
theorem dX10_rests_66 : decode cX10_rests 66 = .ok (.ifCond .eq 30, 3) := by decide +kernel
theorem dX10_rests_69 : decode cX10_rests 69 = .ok (.iload 4, 2) := by decide +kernel
theorem dX10_rests_71 : decode cX10_rests 71 = .ok (.ifCond .ne 18, 3) := by decide +kernel
theorem dX10_rests_74 : decode cX10_rests 74 = .ok (.bipush 10, 2) := by decide +kernel
theorem dX10_rests_76 : decode cX10_rests 76 = .ok (.iload 6, 2) := by decide +kernel
theorem dX10_rests_78 : decode cX10_rests 78 = .ok (.iconst 2, 1) := by decide +kernel
theorem dX10_rests_79 : decode cX10_rests 79 = .ok (.idiv, 1) := by decide +kernel
theorem dX10_rests_80 : decode cX10_rests 80 = .ok (.imul, 1) := by decide +kernel
theorem dX10_rests_81 : decode cX10_rests 81 = .ok (.iload 6, 2) := by decide +kernel
theorem dX10_rests_83 : decode cX10_rests 83 = .ok (.iconst 2, 1) := by decide +kernel
theorem dX10_rests_84 : decode cX10_rests 84 = .ok (.irem, 1) := by decide +kernel
theorem dX10_rests_85 : decode cX10_rests 85 = .ok (.iadd, 1) := by decide +kernel
theorem dX10_rests_86 : decode cX10_rests 86 = .ok (.goto 5, 3) := by decide +kernel
theorem dX10_rests_89 : decode cX10_rests 89 = .ok (.iload 5, 2) := by decide +kernel
theorem dX10_rests_91 : decode cX10_rests 91 = .ok (.istore 5, 2) := by decide +kernel
theorem dX10_rests_93 : decode cX10_rests 93 = .ok (.iinc 4 1, 3) := by decide +kernel
theorem dX10_rests_96 : decode cX10_rests 96 = .ok (.iinc 6 1, 3) := by decide +kernel
theorem dX10_rests_99 : decode cX10_rests 99 = .ok (.goto (-53), 3) := by decide +kernel
theorem dX10_rests_102 : decode cX10_rests 102 = .ok (.iload_n 3, 1) := by decide +kernel
theorem dX10_rests_103 : decode cX10_rests 103 = .ok (.ifCond .ne 8, 3) := by decide +kernel
theorem dX10_rests_106 : decode cX10_rests 106 = .ok (.iload 4, 2) := by decide +kernel
theorem dX10_rests_108 : decode cX10_rests 108 = .ok (.goto 5, 3) := by decide +kernel
theorem dX10_rests_111 : decode cX10_rests 111 = .ok (.iload 5, 2) := by decide +kernel
theorem dX10_rests_113 : decode cX10_rests 113 = .ok (.ireturn, 1) := by decide +kernel
theorem dX10_skipped_0 : decode cX10_skipped 0 = .ok (.aload_n 0, 1) := by decide +kernel
theorem dX10_skipped_1 : decode cX10_skipped 1 = .ok (.iload_n 1, 1) := by decide +kernel
theorem dX10_skipped_2 : decode cX10_skipped 2 = .ok (.invokevirtual 115, 3) := by decide +kernel
theorem dX10_skipped_5 : decode cX10_skipped 5 = .ok (.ifCond .ne 5, 3) := by decide +kernel
theorem dX10_skipped_8 : decode cX10_skipped 8 = .ok (.iconst (-1), 1) := by decide +kernel
theorem dX10_skipped_9 : decode cX10_skipped 9 = .ok (.ireturn, 1) := by decide +kernel
theorem dX10_skipped_10 : decode cX10_skipped 10 = .ok (.iload_n 2, 1) := by decide +kernel
theorem dX10_skipped_11 : decode cX10_skipped 11 = .ok (.i2l, 1) := by decide +kernel
theorem dX10_skipped_12 : decode cX10_skipped 12 = .ok (.lconst 0, 1) := by decide +kernel
theorem dX10_skipped_13 : decode cX10_skipped 13 = .ok (.ldc2_w 216, 3) := by decide +kernel
theorem dX10_skipped_16 : decode cX10_skipped 16 = .ok (.invokestatic 52, 3) := by decide +kernel
theorem dX10_skipped_19 : decode cX10_skipped 19 = .ok (.ifCond .eq 15, 3) := by decide +kernel
theorem dX10_skipped_22 : decode cX10_skipped 22 = .ok (.iload_n 3, 1) := by decide +kernel
theorem dX10_skipped_23 : decode cX10_skipped 23 = .ok (.i2l, 1) := by decide +kernel
theorem dX10_skipped_24 : decode cX10_skipped 24 = .ok (.lconst 0, 1) := by decide +kernel
theorem dX10_skipped_25 : decode cX10_skipped 25 = .ok (.ldc2_w 90, 3) := by decide +kernel
theorem dX10_skipped_28 : decode cX10_skipped 28 = .ok (.invokestatic 52, 3) := by decide +kernel
theorem dX10_skipped_31 : decode cX10_skipped 31 = .ok (.ifCond .ne 6, 3) := by decide +kernel
theorem dX10_skipped_34 : decode cX10_skipped 34 = .ok (.bipush (-2), 2) := by decide +kernel
theorem dX10_skipped_36 : decode cX10_skipped 36 = .ok (.ireturn, 1) := by decide +kernel
theorem dX10_skipped_37 : decode cX10_skipped 37 = .ok (.iconst 0, 1) := by decide +kernel
theorem dX10_skipped_38 : decode cX10_skipped 38 = .ok (.istore 5, 2) := by decide +kernel
theorem dX10_skipped_40 : decode cX10_skipped 40 = .ok (.iconst 0, 1) := by decide +kernel
theorem dX10_skipped_41 : decode cX10_skipped 41 = .ok (.istore 6, 2) := by decide +kernel
theorem dX10_skipped_43 : decode cX10_skipped 43 = .ok (.iconst 0, 1) := by decide +kernel
theorem dX10_skipped_44 : decode cX10_skipped 44 = .ok (.istore 7, 2) := by decide +kernel
theorem dX10_skipped_46 : decode cX10_skipped 46 = .ok (.iload 7, 2) := by decide +kernel
theorem dX10_skipped_48 : decode cX10_skipped 48 = .ok (.iconst 1, 1) := by decide +kernel
theorem dX10_skipped_49 : decode cX10_skipped 49 = .ok (.aload_n 0, 1) := by decide +kernel
theorem dX10_skipped_50 : decode cX10_skipped 50 = .ok (.getfield 100, 3) := by decide +kernel
theorem dX10_skipped_53 : decode cX10_skipped 53 = .ok (.ishl, 1) := by decide +kernel
theorem dX10_skipped_54 : decode cX10_skipped 54 = .ok (.if_icmp .ge 89, 3) := by decide +kernel
theorem dX10_skipped_57 : decode cX10_skipped 57 = .ok (.iconst 1, 1) := by decide +kernel
theorem dX10_skipped_58 : decode cX10_skipped 58 = .ok (.istore 8, 2) := by decide +kernel
theorem dX10_skipped_60 : decode cX10_skipped 60 = .ok (.iconst 0, 1) := by decide +kernel
theorem dX10_skipped_61 : decode cX10_skipped 61 = .ok (.istore 9, 2) := by decide +kernel
theorem dX10_skipped_63 : decode cX10_skipped 63 = .ok (.iload 9, 2) := by decide +kernel
theorem dX10_skipped_65 : decode cX10_skipped 65 = .ok (.aload_n 0, 1) := by decide +kernel
theorem dX10_skipped_66 : decode cX10_skipped 66 = .ok (.getfield 100, 3) := by decide +kernel
theorem dX10_skipped_69 : decode cX10_skipped 69 = .ok (.if_icmp .ge 32, 3) := by decide +kernel
theorem dX10_skipped_72 : decode cX10_skipped 72 = .ok (.iload 8, 2) := by decide +kernel
theorem dX10_skipped_74 : decode cX10_skipped 74 = .ok (.iload 7, 2) := by decide +kernel
theorem dX10_skipped_76 : decode cX10_skipped 76 = .ok (.iload 9, 2) := by decide +kernel
theorem dX10_skipped_78 : decode cX10_skipped 78 = .ok (.invokestatic 126, 3) := by decide +kernel
theorem dX10_skipped_81 : decode cX10_skipped 81 = .ok (.ifCond .eq 7, 3) := by decide +kernel
theorem dX10_skipped_84 : decode cX10_skipped 84 = .ok (.iload_n 3, 1) := by decide +kernel
theorem dX10_skipped_85 : decode cX10_skipped 85 = .ok (.goto 7, 3) := by decide +kernel
theorem dX10_skipped_88 : decode cX10_skipped 88 = .ok (.bipush 10, 2) := by decide +kernel
theorem dX10_skipped_90 : decode cX10_skipped 90 = .ok (.iload_n 3, 1) := by decide +kernel
theorem dX10_skipped_91 : decode cX10_skipped 91 = .ok (.isub, 1) := by decide +kernel
theorem dX10_skipped_92 : decode cX10_skipped 92 = .ok (.imul, 1) := by decide +kernel
theorem dX10_skipped_93 : decode cX10_skipped 93 = .ok (.istore 8, 2) := by decide +kernel
theorem dX10_skipped_95 : decode cX10_skipped 95 = .ok (.iinc 9 1, 3) := by decide +kernel
theorem dX10_skipped_98 : decode cX10_skipped 98 = .ok (.goto (-35), 3) := by decide +kernel
theorem dX10_skipped_101 : decode cX10_skipped 101 = .ok (.aload_n 0, 1) := by decide +kernel
theorem dX10_skipped_102 : decode cX10_skipped 102 = .ok (.invokevirtual 140, 3) := by decide +kernel
theorem dX10_skipped_105 : decode cX10_skipped 105 = .ok (.iload 6, 2) := by decide +kernel
theorem dX10_skipped_107 : decode cX10_skipped 107 = .ok (.iload 8, 2) := by decide +kernel
theorem dX10_skipped_109 : decode cX10_skipped 109 = .ok (.iadd, 1) := by decide +kernel
theorem dX10_skipped_110 : decode cX10_skipped 110 = .ok (.istore 6, 2) := by decide +kernel
theorem dX10_skipped_112 : decode cX10_skipped 112 = .ok (.iload 5, 2) := by decide +kernel
theorem dX10_skipped_114 : decode cX10_skipped 114 = .ok (.aload_n 0, 1) := by decide +kernel
theorem dX10_skipped_115 : decode cX10_skipped 115 = .ok (.iconst 1, 1) := by decide +kernel
theorem dX10_skipped_116 : decode cX10_skipped 116 = .ok (.iload_n 1, 1) := by decide +kernel
theorem dX10_skipped_117 : decode cX10_skipped 117 = .ok (.bipush 8, 2) := by decide +kernel
theorem dX10_skipped_119 : decode cX10_skipped 119 = .ok (.iload 7, 2) := by decide +kernel
theorem dX10_skipped_121 : decode cX10_skipped 121 = .ok (.invokevirtual 143, 3) := by decide +kernel
theorem dX10_skipped_124 : decode cX10_skipped 124 = .ok (.iload_n 2, 1) := by decide +kernel
theorem dX10_skipped_125 : decode cX10_skipped 125 = .ok (.if_icmp .lt 8, 3) := by decide +kernel
theorem dX10_skipped_128 : decode cX10_skipped 128 = .ok (.iload 8, 2) := by decide +kernel
theorem dX10_skipped_130 : decode cX10_skipped 130 = .ok (.goto 4, 3) := by decide +kernel
theorem dX10_skipped_133 : decode cX10_skipped 133 = .ok (.iconst 0, 1) := by decide +kernel
theorem dX10_skipped_134 : decode cX10_skipped 134 = .ok (.iadd, 1) := by decide +kernel
theorem dX10_skipped_135 : decode cX10_skipped 135 = .ok (.istore 5, 2) := by decide +kernel
theorem dX10_skipped_137 : decode cX10_skipped 137 = .ok (.iinc 7 1, 3) := by decide +kernel
theorem dX10_skipped_140 : decode cX10_skipped 140 = .ok (.goto (-94), 3) := by decide +kernel
theorem dX10_skipped_143 : decode cX10_skipped 143 = .ok (.iload 5, 2) := by decide +kernel
theorem dX10_skipped_145 : decode cX10_skipped 145 = .ok (.iload 6, 2) := by decide +kernel
theorem dX10_skipped_147 : decode cX10_skipped 147 = .ok (.invokestatic 205, 3) := by decide +kernel
theorem dX10_skipped_150 : decode cX10_skipped 150 = .ok (.istore 7, 2) := by decide +kernel
theorem dX10_skipped_152 : decode cX10_skipped 152 = .ok (.iload 4, 2) := by decide +kernel
theorem dX10_skipped_154 : decode cX10_skipped 154 = .ok (.ifCond .eq 11, 3) := by decide +kernel
theorem dX10_skipped_157 : decode cX10_skipped 157 = .ok (.iload 5, 2) := by decide +kernel
theorem dX10_skipped_159 : decode cX10_skipped 159 = .ok (.iload 7, 2) := by decide +kernel
theorem dX10_skipped_161 : decode cX10_skipped 161 = .ok (.idiv, 1) := by decide +kernel
theorem dX10_skipped_162 : decode cX10_skipped 162 = .ok (.goto 8, 3) := by decide +kernel
theorem dX10_skipped_165 : decode cX10_skipped 165 = .ok (.iload 6, 2) := by decide +kernel
theorem dX10_skipped_167 : decode cX10_skipped 167 = .ok (.iload 7, 2) := by decide +kernel
theorem dX10_skipped_169 : decode cX10_skipped 169 = .ok (.idiv, 1) := by decide +kernel
theorem dX10_skipped_170 : decode cX10_skipped 170 = .ok (.ireturn, 1) := by decide +kernel
theorem dX10_seed_0 : decode cX10_seed 0 = .ok (.aload_n 0, 1) := by decide +kernel
theorem dX10_seed_1 : decode cX10_seed 1 = .ok (.getfield 218, 3) := by decide +kernel
theorem dX10_seed_4 : decode cX10_seed 4 = .ok (.lstore_n 3, 1) := by decide +kernel
theorem dX10_seed_5 : decode cX10_seed 5 = .ok (.aload_n 0, 1) := by decide +kernel
theorem dX10_seed_6 : decode cX10_seed 6 = .ok (.lload_n 1, 1) := by decide +kernel
theorem dX10_seed_7 : decode cX10_seed 7 = .ok (.putfield 218, 3) := by decide +kernel
theorem dX10_seed_10 : decode cX10_seed 10 = .ok (.lload_n 3, 1) := by decide +kernel
theorem dX10_seed_11 : decode cX10_seed 11 = .ok (.lreturn, 1) := by decide +kernel
theorem dX10_years_0 : decode cX10_years 0 = .ok (.iload_n 1, 1) := by decide +kernel
theorem dX10_years_1 : decode cX10_years 1 = .ok (.i2l, 1) := by decide +kernel
theorem dX10_years_2 : decode cX10_years 2 = .ok (.lconst 1, 1) := by decide +kernel
theorem dX10_years_3 : decode cX10_years 3 = .ok (.ldc2_w 222, 3) := by decide +kernel
theorem dX10_years_6 : decode cX10_years 6 = .ok (.invokestatic 52, 3) := by decide +kernel
theorem dX10_years_9 : decode cX10_years 9 = .ok (.ifCond .ne 6, 3) := by decide +kernel
theorem dX10_years_12 : decode cX10_years 12 = .ok (.bipush (-2), 2) := by decide +kernel
theorem dX10_years_14 : decode cX10_years 14 = .ok (.ireturn, 1) := by decide +kernel
theorem dX10_years_15 : decode cX10_years 15 = .ok (.aload_n 0, 1) := by decide +kernel
theorem dX10_years_16 : decode cX10_years 16 = .ok (.invokevirtual 140, 3) := by decide +kernel
theorem dX10_years_19 : decode cX10_years 19 = .ok (.iconst 0, 1) := by decide +kernel
theorem dX10_years_20 : decode cX10_years 20 = .ok (.istore_n 2, 1) := by decide +kernel
theorem dX10_years_21 : decode cX10_years 21 = .ok (.iconst 0, 1) := by decide +kernel
theorem dX10_years_22 : decode cX10_years 22 = .ok (.istore_n 3, 1) := by decide +kernel
theorem dX10_years_23 : decode cX10_years 23 = .ok (.iload_n 3, 1) := by decide +kernel
theorem dX10_years_24 : decode cX10_years 24 = .ok (.iload_n 1, 1) := by decide +kernel
theorem dX10_years_25 : decode cX10_years 25 = .ok (.if_icmp .ge 156, 3) := by decide +kernel
theorem dX10_years_28 : decode cX10_years 28 = .ok (.aload_n 0, 1) := by decide +kernel
theorem dX10_years_29 : decode cX10_years 29 = .ok (.aload_n 0, 1) := by decide +kernel
theorem dX10_years_30 : decode cX10_years 30 = .ok (.getfield 218, 3) := by decide +kernel
theorem dX10_years_33 : decode cX10_years 33 = .ok (.ldc2_w 224, 3) := by decide +kernel
theorem dX10_years_36 : decode cX10_years 36 = .ok (.lmul, 1) := by decide +kernel
theorem dX10_years_37 : decode cX10_years 37 = .ok (.ldc2_w 226, 3) := by decide +kernel
theorem dX10_years_40 : decode cX10_years 40 = .ok (.ladd, 1) := by decide +kernel
theorem dX10_years_41 : decode cX10_years 41 = .ok (.putfield 218, 3) := by decide +kernel
theorem dX10_years_44 : decode cX10_years 44 = .ok (.aload_n 0, 1) := by decide +kernel
theorem dX10_years_45 : decode cX10_years 45 = .ok (.getfield 218, 3) := by decide +kernel
theorem dX10_years_48 : decode cX10_years 48 = .ok (.bipush 33, 2) := by decide +kernel
theorem dX10_years_50 : decode cX10_years 50 = .ok (.lushr, 1) := by decide +kernel
theorem dX10_years_51 : decode cX10_years 51 = .ok (.ldc2_w 228, 3) := by decide +kernel
theorem dX10_years_54 : decode cX10_years 54 = .ok (.lrem, 1) := by decide +kernel
theorem dX10_years_55 : decode cX10_years 55 = .ok (.l2i, 1) := by decide +kernel
theorem dX10_years_56 : decode cX10_years 56 = .ok (.istore 4, 2) := by decide +kernel
theorem dX10_years_58 : decode cX10_years 58 = .ok (.iload 4, 2) := by decide +kernel
theorem dX10_years_60 : decode cX10_years 60 = .ok (.bipush 43, 2) := by decide +kernel
theorem dX10_years_62 : decode cX10_years 62 = .ok (.if_icmp .le 23, 3) := by decide +kernel
theorem dX10_years_65 : decode cX10_years 65 = .ok (.aload_n 0, 1) := by decide +kernel
theorem dX10_years_66 : decode cX10_years 66 = .ok (.getfield 16, 3) := by decide +kernel
theorem dX10_years_69 : decode cX10_years 69 = .ok (.bipush 61, 2) := by decide +kernel
theorem dX10_years_71 : decode cX10_years 71 = .ok (.bipush 6, 2) := by decide +kernel
theorem dX10_years_73 : decode cX10_years 73 = .ok (.iload 4, 2) := by decide +kernel
theorem dX10_years_75 : decode cX10_years 75 = .ok (.bipush 44, 2) := by decide +kernel
theorem dX10_years_77 : decode cX10_years 77 = .ok (.isub, 1) := by decide +kernel
theorem dX10_years_78 : decode cX10_years 78 = .ok (.imul, 1) := by decide +kernel
theorem dX10_years_79 : decode cX10_years 79 = .ok (.iadd, 1) := by decide +kernel
theorem dX10_years_80 : decode cX10_years 80 = .ok (.iconst 0, 1) := by decide +kernel
theorem dX10_years_81 : decode cX10_years 81 = .ok (.iastore, 1) := by decide +kernel
theorem dX10_years_82 : decode cX10_years 82 = .ok (.goto 85, 3) := by decide +kernel
theorem dX10_years_85 : decode cX10_years 85 = .ok (.iload 4, 2) := by decide +kernel
theorem dX10_years_87 : decode cX10_years 87 = .ok (.bipush 39, 2) := by decide +kernel
theorem dX10_years_89 : decode cX10_years 89 = .ok (.if_icmp .le 18, 3) := by decide +kernel
theorem dX10_years_92 : decode cX10_years 92 = .ok (.aload_n 0, 1) := by decide +kernel
theorem dX10_years_93 : decode cX10_years 93 = .ok (.iconst 3, 1) := by decide +kernel
theorem dX10_years_94 : decode cX10_years 94 = .ok (.iconst 0, 1) := by decide +kernel
theorem dX10_years_95 : decode cX10_years 95 = .ok (.iload 4, 2) := by decide +kernel
theorem dX10_years_97 : decode cX10_years 97 = .ok (.bipush 40, 2) := by decide +kernel
theorem dX10_years_99 : decode cX10_years 99 = .ok (.isub, 1) := by decide +kernel
theorem dX10_years_100 : decode cX10_years 100 = .ok (.invokevirtual 185, 3) := by decide +kernel
theorem dX10_years_103 : decode cX10_years 103 = .ok (.pop, 1) := by decide +kernel
theorem dX10_years_104 : decode cX10_years 104 = .ok (.goto 63, 3) := by decide +kernel
theorem dX10_years_107 : decode cX10_years 107 = .ok (.iload 4, 2) := by decide +kernel
theorem dX10_years_109 : decode cX10_years 109 = .ok (.bipush 35, 2) := by decide +kernel
theorem dX10_years_111 : decode cX10_years 111 = .ok (.if_icmp .le 18, 3) := by decide +kernel
theorem dX10_years_114 : decode cX10_years 114 = .ok (.aload_n 0, 1) := by decide +kernel
theorem dX10_years_115 : decode cX10_years 115 = .ok (.iconst 2, 1) := by decide +kernel
theorem dX10_years_116 : decode cX10_years 116 = .ok (.iconst 0, 1) := by decide +kernel
theorem dX10_years_117 : decode cX10_years 117 = .ok (.iload 4, 2) := by decide +kernel
theorem dX10_years_119 : decode cX10_years 119 = .ok (.bipush 36, 2) := by decide +kernel
theorem dX10_years_121 : decode cX10_years 121 = .ok (.isub, 1) := by decide +kernel
theorem dX10_years_122 : decode cX10_years 122 = .ok (.invokevirtual 185, 3) := by decide +kernel
theorem dX10_years_125 : decode cX10_years 125 = .ok (.pop, 1) := by decide +kernel
theorem dX10_years_126 : decode cX10_years 126 = .ok (.goto 41, 3) := by decide +kernel
theorem dX10_years_129 : decode cX10_years 129 = .ok (.iload 4, 2) := by decide +kernel
theorem dX10_years_131 : decode cX10_years 131 = .ok (.bipush 31, 2) := by decide +kernel
theorem dX10_years_133 : decode cX10_years 133 = .ok (.if_icmp .le 18, 3) := by decide +kernel
theorem dX10_years_136 : decode cX10_years 136 = .ok (.aload_n 0, 1) := by decide +kernel
theorem dX10_years_137 : decode cX10_years 137 = .ok (.iconst 4, 1) := by decide +kernel
theorem dX10_years_138 : decode cX10_years 138 = .ok (.iconst 0, 1) := by decide +kernel
theorem dX10_years_139 : decode cX10_years 139 = .ok (.iload 4, 2) := by decide +kernel
theorem dX10_years_141 : decode cX10_years 141 = .ok (.bipush 32, 2) := by decide +kernel
theorem dX10_years_143 : decode cX10_years 143 = .ok (.isub, 1) := by decide +kernel
theorem dX10_years_144 : decode cX10_years 144 = .ok (.invokevirtual 185, 3) := by decide +kernel
theorem dX10_years_147 : decode cX10_years 147 = .ok (.pop, 1) := by decide +kernel
theorem dX10_years_148 : decode cX10_years 148 = .ok (.goto 19, 3) := by decide +kernel
theorem dX10_years_151 : decode cX10_years 151 = .ok (.aload_n 0, 1) := by decide +kernel
theorem dX10_years_152 : decode cX10_years 152 = .ok (.iconst 1, 1) := by decide +kernel
theorem dX10_years_153 : decode cX10_years 153 = .ok (.iload 4, 2) := by decide +kernel
theorem dX10_years_155 : decode cX10_years 155 = .ok (.bipush 8, 2) := by decide +kernel
theorem dX10_years_157 : decode cX10_years 157 = .ok (.idiv, 1) := by decide +kernel
theorem dX10_years_158 : decode cX10_years 158 = .ok (.iload 4, 2) := by decide +kernel
theorem dX10_years_160 : decode cX10_years 160 = .ok (.bipush 8, 2) := by decide +kernel
theorem dX10_years_162 : decode cX10_years 162 = .ok (.irem, 1) := by decide +kernel
theorem dX10_years_163 : decode cX10_years 163 = .ok (.invokevirtual 185, 3) := by decide +kernel
theorem dX10_years_166 : decode cX10_years 166 = .ok (.pop, 1) := by decide +kernel
theorem dX10_years_167 : decode cX10_years 167 = .ok (.iload_n 2, 1) := by decide +kernel
theorem dX10_years_168 : decode cX10_years 168 = .ok (.aload_n 0, 1) := by decide +kernel
theorem dX10_years_169 : decode cX10_years 169 = .ok (.iconst 1, 1) := by decide +kernel
theorem dX10_years_170 : decode cX10_years 170 = .ok (.invokevirtual 230, 3) := by decide +kernel
theorem dX10_years_173 : decode cX10_years 173 = .ok (.iadd, 1) := by decide +kernel
theorem dX10_years_174 : decode cX10_years 174 = .ok (.istore_n 2, 1) := by decide +kernel
theorem dX10_years_175 : decode cX10_years 175 = .ok (.iinc 3 1, 3) := by decide +kernel
theorem dX10_years_178 : decode cX10_years 178 = .ok (.goto (-155), 3) := by decide +kernel
theorem dX10_years_181 : decode cX10_years 181 = .ok (.iload_n 2, 1) := by decide +kernel
theorem dX10_years_182 : decode cX10_years 182 = .ok (.ireturn, 1) := by decide +kernel
theorem dX10_keep_0 : decode cX10_keep 0 = .ok (.iload_n 1, 1) := by decide +kernel
theorem dX10_keep_1 : decode cX10_keep 1 = .ok (.i2l, 1) := by decide +kernel
theorem dX10_keep_2 : decode cX10_keep 2 = .ok (.lconst 0, 1) := by decide +kernel
theorem dX10_keep_3 : decode cX10_keep 3 = .ok (.lconst 1, 1) := by decide +kernel
theorem dX10_keep_4 : decode cX10_keep 4 = .ok (.invokestatic 52, 3) := by decide +kernel
theorem dX10_keep_7 : decode cX10_keep 7 = .ok (.ifCond .ne 5, 3) := by decide +kernel
theorem dX10_keep_10 : decode cX10_keep 10 = .ok (.iconst (-1), 1) := by decide +kernel
theorem dX10_keep_11 : decode cX10_keep 11 = .ok (.ireturn, 1) := by decide +kernel
theorem dX10_keep_12 : decode cX10_keep 12 = .ok (.aload_n 0, 1) := by decide +kernel
theorem dX10_keep_13 : decode cX10_keep 13 = .ok (.getfield 43, 3) := by decide +kernel
theorem dX10_keep_16 : decode cX10_keep 16 = .ok (.iload_n 1, 1) := by decide +kernel
theorem dX10_keep_17 : decode cX10_keep 17 = .ok (.iconst 1, 1) := by decide +kernel
theorem dX10_keep_18 : decode cX10_keep 18 = .ok (.bastore, 1) := by decide +kernel
theorem dX10_keep_19 : decode cX10_keep 19 = .ok (.iconst 0, 1) := by decide +kernel
theorem dX10_keep_20 : decode cX10_keep 20 = .ok (.istore_n 2, 1) := by decide +kernel
theorem dX10_keep_21 : decode cX10_keep 21 = .ok (.iload_n 2, 1) := by decide +kernel
theorem dX10_keep_22 : decode cX10_keep 22 = .ok (.bipush 43, 2) := by decide +kernel
theorem dX10_keep_24 : decode cX10_keep 24 = .ok (.if_icmp .ge 26, 3) := by decide +kernel
theorem dX10_keep_27 : decode cX10_keep 27 = .ok (.aload_n 0, 1) := by decide +kernel
theorem dX10_keep_28 : decode cX10_keep 28 = .ok (.getfield 47, 3) := by decide +kernel
theorem dX10_keep_31 : decode cX10_keep 31 = .ok (.bipush 43, 2) := by decide +kernel
theorem dX10_keep_33 : decode cX10_keep 33 = .ok (.iload_n 1, 1) := by decide +kernel
theorem dX10_keep_34 : decode cX10_keep 34 = .ok (.imul, 1) := by decide +kernel
theorem dX10_keep_35 : decode cX10_keep 35 = .ok (.iload_n 2, 1) := by decide +kernel
theorem dX10_keep_36 : decode cX10_keep 36 = .ok (.iadd, 1) := by decide +kernel
theorem dX10_keep_37 : decode cX10_keep 37 = .ok (.aload_n 0, 1) := by decide +kernel
theorem dX10_keep_38 : decode cX10_keep 38 = .ok (.getfield 16, 3) := by decide +kernel
theorem dX10_keep_41 : decode cX10_keep 41 = .ok (.iload_n 2, 1) := by decide +kernel
theorem dX10_keep_42 : decode cX10_keep 42 = .ok (.iaload, 1) := by decide +kernel
theorem dX10_keep_43 : decode cX10_keep 43 = .ok (.iastore, 1) := by decide +kernel
theorem dX10_keep_44 : decode cX10_keep 44 = .ok (.iinc 2 1, 3) := by decide +kernel
theorem dX10_keep_47 : decode cX10_keep 47 = .ok (.goto (-26), 3) := by decide +kernel
theorem dX10_keep_50 : decode cX10_keep 50 = .ok (.aload_n 0, 1) := by decide +kernel
theorem dX10_keep_51 : decode cX10_keep 51 = .ok (.getfield 16, 3) := by decide +kernel
theorem dX10_keep_54 : decode cX10_keep 54 = .ok (.bipush 17, 2) := by decide +kernel
theorem dX10_keep_56 : decode cX10_keep 56 = .ok (.iaload, 1) := by decide +kernel
theorem dX10_keep_57 : decode cX10_keep 57 = .ok (.ireturn, 1) := by decide +kernel
theorem dX10_again_0 : decode cX10_again 0 = .ok (.iload_n 1, 1) := by decide +kernel
theorem dX10_again_1 : decode cX10_again 1 = .ok (.i2l, 1) := by decide +kernel
theorem dX10_again_2 : decode cX10_again 2 = .ok (.lconst 0, 1) := by decide +kernel
theorem dX10_again_3 : decode cX10_again 3 = .ok (.lconst 1, 1) := by decide +kernel
theorem dX10_again_4 : decode cX10_again 4 = .ok (.invokestatic 52, 3) := by decide +kernel
theorem dX10_again_7 : decode cX10_again 7 = .ok (.ifCond .ne 5, 3) := by decide +kernel
theorem dX10_again_10 : decode cX10_again 10 = .ok (.iconst (-1), 1) := by decide +kernel
theorem dX10_again_11 : decode cX10_again 11 = .ok (.ireturn, 1) := by decide +kernel
theorem dX10_again_12 : decode cX10_again 12 = .ok (.aload_n 0, 1) := by decide +kernel
theorem dX10_again_13 : decode cX10_again 13 = .ok (.getfield 43, 3) := by decide +kernel
theorem dX10_again_16 : decode cX10_again 16 = .ok (.iload_n 1, 1) := by decide +kernel
theorem dX10_again_17 : decode cX10_again 17 = .ok (.baload, 1) := by decide +kernel
theorem dX10_again_18 : decode cX10_again 18 = .ok (.ifCond .ne 6, 3) := by decide +kernel
theorem dX10_again_21 : decode cX10_again 21 = .ok (.bipush (-3), 2) := by decide +kernel
theorem dX10_again_23 : decode cX10_again 23 = .ok (.ireturn, 1) := by decide +kernel
theorem dX10_again_24 : decode cX10_again 24 = .ok (.iconst 0, 1) := by decide +kernel
theorem dX10_again_25 : decode cX10_again 25 = .ok (.istore_n 2, 1) := by decide +kernel
theorem dX10_again_26 : decode cX10_again 26 = .ok (.iload_n 2, 1) := by decide +kernel
theorem dX10_again_27 : decode cX10_again 27 = .ok (.bipush 43, 2) := by decide +kernel
theorem dX10_again_29 : decode cX10_again 29 = .ok (.if_icmp .ge 26, 3) := by decide +kernel
theorem dX10_again_32 : decode cX10_again 32 = .ok (.aload_n 0, 1) := by decide +kernel
theorem dX10_again_33 : decode cX10_again 33 = .ok (.getfield 16, 3) := by decide +kernel
theorem dX10_again_36 : decode cX10_again 36 = .ok (.iload_n 2, 1) := by decide +kernel
theorem dX10_again_37 : decode cX10_again 37 = .ok (.aload_n 0, 1) := by decide +kernel
theorem dX10_again_38 : decode cX10_again 38 = .ok (.getfield 47, 3) := by decide +kernel
theorem dX10_again_41 : decode cX10_again 41 = .ok (.bipush 43, 2) := by decide +kernel
theorem dX10_again_43 : decode cX10_again 43 = .ok (.iload_n 1, 1) := by decide +kernel
theorem dX10_again_44 : decode cX10_again 44 = .ok (.imul, 1) := by decide +kernel
theorem dX10_again_45 : decode cX10_again 45 = .ok (.iload_n 2, 1) := by decide +kernel
theorem dX10_again_46 : decode cX10_again 46 = .ok (.iadd, 1) := by decide +kernel
theorem dX10_again_47 : decode cX10_again 47 = .ok (.iaload, 1) := by decide +kernel
theorem dX10_again_48 : decode cX10_again 48 = .ok (.iastore, 1) := by decide +kernel
theorem dX10_again_49 : decode cX10_again 49 = .ok (.iinc 2 1, 3) := by decide +kernel
theorem dX10_again_52 : decode cX10_again 52 = .ok (.goto (-26), 3) := by decide +kernel
theorem dX10_again_55 : decode cX10_again 55 = .ok (.aload_n 0, 1) := by decide +kernel
theorem dX10_again_56 : decode cX10_again 56 = .ok (.iconst 0, 1) := by decide +kernel
theorem dX10_again_57 : decode cX10_again 57 = .ok (.putfield 87, 3) := by decide +kernel
theorem dX10_again_60 : decode cX10_again 60 = .ok (.aload_n 0, 1) := by decide +kernel
theorem dX10_again_61 : decode cX10_again 61 = .ok (.getfield 16, 3) := by decide +kernel
theorem dX10_again_64 : decode cX10_again 64 = .ok (.bipush 17, 2) := by decide +kernel
theorem dX10_again_66 : decode cX10_again 66 = .ok (.iaload, 1) := by decide +kernel
theorem dX10_again_67 : decode cX10_again 67 = .ok (.ireturn, 1) := by decide +kernel
theorem dX10_fullPens_0 : decode cX10_fullPens 0 = .ok (.iconst 0, 1) := by decide +kernel
theorem dX10_fullPens_1 : decode cX10_fullPens 1 = .ok (.istore_n 1, 1) := by decide +kernel
theorem dX10_fullPens_2 : decode cX10_fullPens 2 = .ok (.iconst 0, 1) := by decide +kernel
theorem dX10_fullPens_3 : decode cX10_fullPens 3 = .ok (.istore_n 2, 1) := by decide +kernel
theorem dX10_fullPens_4 : decode cX10_fullPens 4 = .ok (.iload_n 2, 1) := by decide +kernel
theorem dX10_fullPens_5 : decode cX10_fullPens 5 = .ok (.aload_n 0, 1) := by decide +kernel
theorem dX10_fullPens_6 : decode cX10_fullPens 6 = .ok (.getfield 84, 3) := by decide +kernel
theorem dX10_fullPens_9 : decode cX10_fullPens 9 = .ok (.if_icmp .ge 37, 3) := by decide +kernel
theorem dX10_fullPens_12 : decode cX10_fullPens 12 = .ok (.iload_n 1, 1) := by decide +kernel
theorem dX10_fullPens_13 : decode cX10_fullPens 13 = .ok (.aload_n 0, 1) := by decide +kernel
theorem dX10_fullPens_14 : decode cX10_fullPens 14 = .ok (.getfield 16, 3) := by decide +kernel
theorem dX10_fullPens_17 : decode cX10_fullPens 17 = .ok (.bipush 12, 2) := by decide +kernel
theorem dX10_fullPens_19 : decode cX10_fullPens 19 = .ok (.iload_n 2, 1) := by decide +kernel
theorem dX10_fullPens_20 : decode cX10_fullPens 20 = .ok (.iadd, 1) := by decide +kernel
theorem dX10_fullPens_21 : decode cX10_fullPens 21 = .ok (.iaload, 1) := by decide +kernel
theorem dX10_fullPens_22 : decode cX10_fullPens 22 = .ok (.aload_n 0, 1) := by decide +kernel
theorem dX10_fullPens_23 : decode cX10_fullPens 23 = .ok (.getfield 13, 3) := by decide +kernel
theorem dX10_fullPens_26 : decode cX10_fullPens 26 = .ok (.iload_n 2, 1) := by decide +kernel
theorem dX10_fullPens_27 : decode cX10_fullPens 27 = .ok (.iaload, 1) := by decide +kernel
theorem dX10_fullPens_28 : decode cX10_fullPens 28 = .ok (.if_icmp .ne 9, 3) := by decide +kernel
theorem dX10_fullPens_31 : decode cX10_fullPens 31 = .ok (.iconst 1, 1) := by decide +kernel
theorem dX10_fullPens_32 : decode cX10_fullPens 32 = .ok (.iload_n 2, 1) := by decide +kernel
theorem dX10_fullPens_33 : decode cX10_fullPens 33 = .ok (.ishl, 1) := by decide +kernel
theorem dX10_fullPens_34 : decode cX10_fullPens 34 = .ok (.goto 4, 3) := by decide +kernel
theorem dX10_fullPens_37 : decode cX10_fullPens 37 = .ok (.iconst 0, 1) := by decide +kernel
theorem dX10_fullPens_38 : decode cX10_fullPens 38 = .ok (.ior, 1) := by decide +kernel
theorem dX10_fullPens_39 : decode cX10_fullPens 39 = .ok (.istore_n 1, 1) := by decide +kernel
theorem dX10_fullPens_40 : decode cX10_fullPens 40 = .ok (.iinc 2 1, 3) := by decide +kernel
theorem dX10_fullPens_43 : decode cX10_fullPens 43 = .ok (.goto (-39), 3) := by decide +kernel
theorem dX10_fullPens_46 : decode cX10_fullPens 46 = .ok (.iload_n 1, 1) := by decide +kernel
theorem dX10_fullPens_47 : decode cX10_fullPens 47 = .ok (.ireturn, 1) := by decide +kernel
theorem dX10_count_0 : decode cX10_count 0 = .ok (.iload_n 1, 1) := by decide +kernel
theorem dX10_count_1 : decode cX10_count 1 = .ok (.tableswitch 113 0 9 #[55, 60, 65, 73, 79, 85, 93, 98, 103, 108], 55) := by decide +kernel
theorem dX10_count_56 : decode cX10_count 56 = .ok (.aload_n 0, 1) := by decide +kernel
theorem dX10_count_57 : decode cX10_count 57 = .ok (.getfield 56, 3) := by decide +kernel
theorem dX10_count_60 : decode cX10_count 60 = .ok (.ireturn, 1) := by decide +kernel
theorem dX10_count_61 : decode cX10_count 61 = .ok (.aload_n 0, 1) := by decide +kernel
theorem dX10_count_62 : decode cX10_count 62 = .ok (.getfield 84, 3) := by decide +kernel
theorem dX10_count_65 : decode cX10_count 65 = .ok (.ireturn, 1) := by decide +kernel
theorem dX10_count_66 : decode cX10_count 66 = .ok (.aload_n 0, 1) := by decide +kernel
theorem dX10_count_67 : decode cX10_count 67 = .ok (.getfield 16, 3) := by decide +kernel
theorem dX10_count_70 : decode cX10_count 70 = .ok (.bipush 17, 2) := by decide +kernel
theorem dX10_count_72 : decode cX10_count 72 = .ok (.iaload, 1) := by decide +kernel
theorem dX10_count_73 : decode cX10_count 73 = .ok (.ireturn, 1) := by decide +kernel
theorem dX10_count_74 : decode cX10_count 74 = .ok (.aload_n 0, 1) := by decide +kernel
theorem dX10_count_75 : decode cX10_count 75 = .ok (.iconst 0, 1) := by decide +kernel
theorem dX10_count_76 : decode cX10_count 76 = .ok (.invokevirtual 230, 3) := by decide +kernel
theorem dX10_count_79 : decode cX10_count 79 = .ok (.ireturn, 1) := by decide +kernel
theorem dX10_count_80 : decode cX10_count 80 = .ok (.aload_n 0, 1) := by decide +kernel
theorem dX10_count_81 : decode cX10_count 81 = .ok (.iconst 0, 1) := by decide +kernel
theorem dX10_count_82 : decode cX10_count 82 = .ok (.invokevirtual 193, 3) := by decide +kernel
theorem dX10_count_85 : decode cX10_count 85 = .ok (.ireturn, 1) := by decide +kernel
theorem dX10_count_86 : decode cX10_count 86 = .ok (.aload_n 0, 1) := by decide +kernel
theorem dX10_count_87 : decode cX10_count 87 = .ok (.getfield 16, 3) := by decide +kernel
theorem dX10_count_90 : decode cX10_count 90 = .ok (.bipush 16, 2) := by decide +kernel
theorem dX10_count_92 : decode cX10_count 92 = .ok (.iaload, 1) := by decide +kernel
theorem dX10_count_93 : decode cX10_count 93 = .ok (.ireturn, 1) := by decide +kernel
theorem dX10_count_94 : decode cX10_count 94 = .ok (.aload_n 0, 1) := by decide +kernel
theorem dX10_count_95 : decode cX10_count 95 = .ok (.invokevirtual 233, 3) := by decide +kernel
theorem dX10_count_98 : decode cX10_count 98 = .ok (.ireturn, 1) := by decide +kernel
theorem dX10_count_99 : decode cX10_count 99 = .ok (.aload_n 0, 1) := by decide +kernel
theorem dX10_count_100 : decode cX10_count 100 = .ok (.getfield 100, 3) := by decide +kernel
theorem dX10_count_103 : decode cX10_count 103 = .ok (.ireturn, 1) := by decide +kernel
theorem dX10_count_104 : decode cX10_count 104 = .ok (.aload_n 0, 1) := by decide +kernel
theorem dX10_count_105 : decode cX10_count 105 = .ok (.getfield 87, 3) := by decide +kernel
theorem dX10_count_108 : decode cX10_count 108 = .ok (.ireturn, 1) := by decide +kernel
theorem dX10_count_109 : decode cX10_count 109 = .ok (.aload_n 0, 1) := by decide +kernel
theorem dX10_count_110 : decode cX10_count 110 = .ok (.getfield 190, 3) := by decide +kernel
theorem dX10_count_113 : decode cX10_count 113 = .ok (.ireturn, 1) := by decide +kernel
theorem dX10_count_114 : decode cX10_count 114 = .ok (.bipush (-2), 2) := by decide +kernel
theorem dX10_count_116 : decode cX10_count 116 = .ok (.ireturn, 1) := by decide +kernel
end
section
theorem dL_law_0 : decode cL_law 0 = .ok (.new 7, 3) := by decide +kernel
theorem dL_law_3 : decode cL_law 3 = .ok (.dup, 1) := by decide +kernel
theorem dL_law_4 : decode cL_law 4 = .ok (.invokespecial 9, 3) := by decide +kernel
theorem dL_law_7 : decode cL_law 7 = .ok (.astore_n 1, 1) := by decide +kernel
theorem dL_law_8 : decode cL_law 8 = .ok (.new 10, 3) := by decide +kernel
theorem dL_law_11 : decode cL_law 11 = .ok (.dup, 1) := by decide +kernel
theorem dL_law_12 : decode cL_law 12 = .ok (.invokespecial 12, 3) := by decide +kernel
theorem dL_law_15 : decode cL_law 15 = .ok (.astore_n 2, 1) := by decide +kernel
theorem dL_law_16 : decode cL_law 16 = .ok (.iconst 0, 1) := by decide +kernel
theorem dL_law_17 : decode cL_law 17 = .ok (.istore_n 3, 1) := by decide +kernel
theorem dL_law_18 : decode cL_law 18 = .ok (.iload_n 3, 1) := by decide +kernel
theorem dL_law_19 : decode cL_law 19 = .ok (.aload_n 0, 1) := by decide +kernel
theorem dL_law_20 : decode cL_law 20 = .ok (.arraylength, 1) := by decide +kernel
theorem dL_law_21 : decode cL_law 21 = .ok (.iconst 5, 1) := by decide +kernel
theorem dL_law_22 : decode cL_law 22 = .ok (.isub, 1) := by decide +kernel
theorem dL_law_23 : decode cL_law 23 = .ok (.if_icmp .gt 1067, 3) := by decide +kernel
theorem dL_law_26 : decode cL_law 26 = .ok (.aload_n 0, 1) := by decide +kernel
theorem dL_law_27 : decode cL_law 27 = .ok (.iload_n 3, 1) := by decide +kernel
theorem dL_law_28 : decode cL_law 28 = .ok (.iaload, 1) := by decide +kernel
theorem dL_law_29 : decode cL_law 29 = .ok (.bipush 31, 2) := by decide +kernel
theorem dL_law_31 : decode cL_law 31 = .ok (.iand, 1) := by decide +kernel
theorem dL_law_32 : decode cL_law 32 = .ok (.tableswitch 1052 0 28 #[132, 155, 168, 181, 194, 257, 290, 313, 346, 379, 402, 425, 448, 471, 484, 527, 570, 613, 676, 709, 722, 745, 794, 837, 906, 960, 983, 1006, 1029], 132) := by decide +kernel
theorem dL_law_164 : decode cL_law 164 = .ok (.aload_n 1, 1) := by decide +kernel
theorem dL_law_165 : decode cL_law 165 = .ok (.aload_n 0, 1) := by decide +kernel
theorem dL_law_166 : decode cL_law 166 = .ok (.iload_n 3, 1) := by decide +kernel
theorem dL_law_167 : decode cL_law 167 = .ok (.iconst 1, 1) := by decide +kernel
theorem dL_law_168 : decode cL_law 168 = .ok (.iadd, 1) := by decide +kernel
theorem dL_law_169 : decode cL_law 169 = .ok (.iaload, 1) := by decide +kernel
theorem dL_law_170 : decode cL_law 170 = .ok (.invokevirtual 13, 3) := by decide +kernel
theorem dL_law_173 : decode cL_law 173 = .ok (.aload_n 2, 1) := by decide +kernel
theorem dL_law_174 : decode cL_law 174 = .ok (.aload_n 0, 1) := by decide +kernel
theorem dL_law_175 : decode cL_law 175 = .ok (.iload_n 3, 1) := by decide +kernel
theorem dL_law_176 : decode cL_law 176 = .ok (.iconst 1, 1) := by decide +kernel
theorem dL_law_177 : decode cL_law 177 = .ok (.iadd, 1) := by decide +kernel
theorem dL_law_178 : decode cL_law 178 = .ok (.iaload, 1) := by decide +kernel
theorem dL_law_179 : decode cL_law 179 = .ok (.invokevirtual 17, 3) := by decide +kernel
theorem dL_law_182 : decode cL_law 182 = .ok (.if_icmp .eq 902, 3) := by decide +kernel
theorem dL_law_185 : decode cL_law 185 = .ok (.iconst 0, 1) := by decide +kernel
theorem dL_law_186 : decode cL_law 186 = .ok (.ireturn, 1) := by decide +kernel
theorem dL_law_187 : decode cL_law 187 = .ok (.aload_n 1, 1) := by decide +kernel
theorem dL_law_188 : decode cL_law 188 = .ok (.invokevirtual 18, 3) := by decide +kernel
theorem dL_law_191 : decode cL_law 191 = .ok (.aload_n 2, 1) := by decide +kernel
theorem dL_law_192 : decode cL_law 192 = .ok (.invokevirtual 22, 3) := by decide +kernel
theorem dL_law_195 : decode cL_law 195 = .ok (.if_icmp .eq 889, 3) := by decide +kernel
theorem dL_law_198 : decode cL_law 198 = .ok (.iconst 0, 1) := by decide +kernel
theorem dL_law_199 : decode cL_law 199 = .ok (.ireturn, 1) := by decide +kernel
theorem dL_law_200 : decode cL_law 200 = .ok (.aload_n 1, 1) := by decide +kernel
theorem dL_law_201 : decode cL_law 201 = .ok (.invokevirtual 23, 3) := by decide +kernel
theorem dL_law_204 : decode cL_law 204 = .ok (.aload_n 2, 1) := by decide +kernel
theorem dL_law_205 : decode cL_law 205 = .ok (.invokevirtual 26, 3) := by decide +kernel
theorem dL_law_208 : decode cL_law 208 = .ok (.if_icmp .eq 876, 3) := by decide +kernel
theorem dL_law_211 : decode cL_law 211 = .ok (.iconst 0, 1) := by decide +kernel
theorem dL_law_212 : decode cL_law 212 = .ok (.ireturn, 1) := by decide +kernel
theorem dL_law_213 : decode cL_law 213 = .ok (.aload_n 1, 1) := by decide +kernel
theorem dL_law_214 : decode cL_law 214 = .ok (.invokevirtual 27, 3) := by decide +kernel
theorem dL_law_217 : decode cL_law 217 = .ok (.aload_n 2, 1) := by decide +kernel
theorem dL_law_218 : decode cL_law 218 = .ok (.invokevirtual 30, 3) := by decide +kernel
theorem dL_law_221 : decode cL_law 221 = .ok (.if_icmp .eq 863, 3) := by decide +kernel
theorem dL_law_224 : decode cL_law 224 = .ok (.iconst 0, 1) := by decide +kernel
theorem dL_law_225 : decode cL_law 225 = .ok (.ireturn, 1) := by decide +kernel
theorem dL_law_226 : decode cL_law 226 = .ok (.aload_n 1, 1) := by decide +kernel
theorem dL_law_227 : decode cL_law 227 = .ok (.aload_n 0, 1) := by decide +kernel
theorem dL_law_228 : decode cL_law 228 = .ok (.iload_n 3, 1) := by decide +kernel
theorem dL_law_229 : decode cL_law 229 = .ok (.iconst 1, 1) := by decide +kernel
theorem dL_law_230 : decode cL_law 230 = .ok (.iadd, 1) := by decide +kernel
theorem dL_law_231 : decode cL_law 231 = .ok (.iaload, 1) := by decide +kernel
theorem dL_law_232 : decode cL_law 232 = .ok (.aload_n 0, 1) := by decide +kernel
theorem dL_law_233 : decode cL_law 233 = .ok (.iload_n 3, 1) := by decide +kernel
theorem dL_law_234 : decode cL_law 234 = .ok (.iconst 2, 1) := by decide +kernel
theorem dL_law_235 : decode cL_law 235 = .ok (.iadd, 1) := by decide +kernel
theorem dL_law_236 : decode cL_law 236 = .ok (.iaload, 1) := by decide +kernel
theorem dL_law_237 : decode cL_law 237 = .ok (.i2l, 1) := by decide +kernel
theorem dL_law_238 : decode cL_law 238 = .ok (.bipush 32, 2) := by decide +kernel
theorem dL_law_240 : decode cL_law 240 = .ok (.lshl, 1) := by decide +kernel
theorem dL_law_241 : decode cL_law 241 = .ok (.aload_n 0, 1) := by decide +kernel
theorem dL_law_242 : decode cL_law 242 = .ok (.iload_n 3, 1) := by decide +kernel
theorem dL_law_243 : decode cL_law 243 = .ok (.iconst 3, 1) := by decide +kernel
theorem dL_law_244 : decode cL_law 244 = .ok (.iadd, 1) := by decide +kernel
theorem dL_law_245 : decode cL_law 245 = .ok (.iaload, 1) := by decide +kernel
theorem dL_law_246 : decode cL_law 246 = .ok (.i2l, 1) := by decide +kernel
theorem dL_law_247 : decode cL_law 247 = .ok (.ldc2_w 31, 3) := by decide +kernel
theorem dL_law_250 : decode cL_law 250 = .ok (.land, 1) := by decide +kernel
theorem dL_law_251 : decode cL_law 251 = .ok (.lor, 1) := by decide +kernel
theorem dL_law_252 : decode cL_law 252 = .ok (.invokevirtual 33, 3) := by decide +kernel
theorem dL_law_255 : decode cL_law 255 = .ok (.aload_n 2, 1) := by decide +kernel
theorem dL_law_256 : decode cL_law 256 = .ok (.aload_n 0, 1) := by decide +kernel
theorem dL_law_257 : decode cL_law 257 = .ok (.iload_n 3, 1) := by decide +kernel
theorem dL_law_258 : decode cL_law 258 = .ok (.iconst 1, 1) := by decide +kernel
theorem dL_law_259 : decode cL_law 259 = .ok (.iadd, 1) := by decide +kernel
theorem dL_law_260 : decode cL_law 260 = .ok (.iaload, 1) := by decide +kernel
theorem dL_law_261 : decode cL_law 261 = .ok (.aload_n 0, 1) := by decide +kernel
theorem dL_law_262 : decode cL_law 262 = .ok (.iload_n 3, 1) := by decide +kernel
theorem dL_law_263 : decode cL_law 263 = .ok (.iconst 2, 1) := by decide +kernel
theorem dL_law_264 : decode cL_law 264 = .ok (.iadd, 1) := by decide +kernel
theorem dL_law_265 : decode cL_law 265 = .ok (.iaload, 1) := by decide +kernel
theorem dL_law_266 : decode cL_law 266 = .ok (.i2l, 1) := by decide +kernel
theorem dL_law_267 : decode cL_law 267 = .ok (.bipush 32, 2) := by decide +kernel
theorem dL_law_269 : decode cL_law 269 = .ok (.lshl, 1) := by decide +kernel
theorem dL_law_270 : decode cL_law 270 = .ok (.aload_n 0, 1) := by decide +kernel
theorem dL_law_271 : decode cL_law 271 = .ok (.iload_n 3, 1) := by decide +kernel
theorem dL_law_272 : decode cL_law 272 = .ok (.iconst 3, 1) := by decide +kernel
theorem dL_law_273 : decode cL_law 273 = .ok (.iadd, 1) := by decide +kernel
theorem dL_law_274 : decode cL_law 274 = .ok (.iaload, 1) := by decide +kernel
theorem dL_law_275 : decode cL_law 275 = .ok (.i2l, 1) := by decide +kernel
theorem dL_law_276 : decode cL_law 276 = .ok (.ldc2_w 31, 3) := by decide +kernel
theorem dL_law_279 : decode cL_law 279 = .ok (.land, 1) := by decide +kernel
theorem dL_law_280 : decode cL_law 280 = .ok (.lor, 1) := by decide +kernel
theorem dL_law_281 : decode cL_law 281 = .ok (.invokevirtual 37, 3) := by decide +kernel
theorem dL_law_284 : decode cL_law 284 = .ok (.if_icmp .eq 800, 3) := by decide +kernel
theorem dL_law_287 : decode cL_law 287 = .ok (.iconst 0, 1) := by decide +kernel
theorem dL_law_288 : decode cL_law 288 = .ok (.ireturn, 1) := by decide +kernel
theorem dL_law_289 : decode cL_law 289 = .ok (.aload_n 1, 1) := by decide +kernel
theorem dL_law_290 : decode cL_law 290 = .ok (.aload_n 0, 1) := by decide +kernel
theorem dL_law_291 : decode cL_law 291 = .ok (.iload_n 3, 1) := by decide +kernel
theorem dL_law_292 : decode cL_law 292 = .ok (.iconst 1, 1) := by decide +kernel
theorem dL_law_293 : decode cL_law 293 = .ok (.iadd, 1) := by decide +kernel
theorem dL_law_294 : decode cL_law 294 = .ok (.iaload, 1) := by decide +kernel
theorem dL_law_295 : decode cL_law 295 = .ok (.aload_n 0, 1) := by decide +kernel
theorem dL_law_296 : decode cL_law 296 = .ok (.iload_n 3, 1) := by decide +kernel
theorem dL_law_297 : decode cL_law 297 = .ok (.iconst 2, 1) := by decide +kernel
theorem dL_law_298 : decode cL_law 298 = .ok (.iadd, 1) := by decide +kernel
theorem dL_law_299 : decode cL_law 299 = .ok (.iaload, 1) := by decide +kernel
theorem dL_law_300 : decode cL_law 300 = .ok (.invokevirtual 38, 3) := by decide +kernel
theorem dL_law_303 : decode cL_law 303 = .ok (.aload_n 2, 1) := by decide +kernel
theorem dL_law_304 : decode cL_law 304 = .ok (.aload_n 0, 1) := by decide +kernel
theorem dL_law_305 : decode cL_law 305 = .ok (.iload_n 3, 1) := by decide +kernel
theorem dL_law_306 : decode cL_law 306 = .ok (.iconst 1, 1) := by decide +kernel
theorem dL_law_307 : decode cL_law 307 = .ok (.iadd, 1) := by decide +kernel
theorem dL_law_308 : decode cL_law 308 = .ok (.iaload, 1) := by decide +kernel
theorem dL_law_309 : decode cL_law 309 = .ok (.aload_n 0, 1) := by decide +kernel
theorem dL_law_310 : decode cL_law 310 = .ok (.iload_n 3, 1) := by decide +kernel
theorem dL_law_311 : decode cL_law 311 = .ok (.iconst 2, 1) := by decide +kernel
theorem dL_law_312 : decode cL_law 312 = .ok (.iadd, 1) := by decide +kernel
theorem dL_law_313 : decode cL_law 313 = .ok (.iaload, 1) := by decide +kernel
theorem dL_law_314 : decode cL_law 314 = .ok (.invokevirtual 42, 3) := by decide +kernel
theorem dL_law_317 : decode cL_law 317 = .ok (.if_icmp .eq 767, 3) := by decide +kernel
theorem dL_law_320 : decode cL_law 320 = .ok (.iconst 0, 1) := by decide +kernel
theorem dL_law_321 : decode cL_law 321 = .ok (.ireturn, 1) := by decide +kernel
theorem dL_law_322 : decode cL_law 322 = .ok (.aload_n 1, 1) := by decide +kernel
theorem dL_law_323 : decode cL_law 323 = .ok (.aload_n 0, 1) := by decide +kernel
theorem dL_law_324 : decode cL_law 324 = .ok (.iload_n 3, 1) := by decide +kernel
theorem dL_law_325 : decode cL_law 325 = .ok (.iconst 1, 1) := by decide +kernel
theorem dL_law_326 : decode cL_law 326 = .ok (.iadd, 1) := by decide +kernel
theorem dL_law_327 : decode cL_law 327 = .ok (.iaload, 1) := by decide +kernel
theorem dL_law_328 : decode cL_law 328 = .ok (.invokevirtual 43, 3) := by decide +kernel
theorem dL_law_331 : decode cL_law 331 = .ok (.aload_n 2, 1) := by decide +kernel
theorem dL_law_332 : decode cL_law 332 = .ok (.aload_n 0, 1) := by decide +kernel
theorem dL_law_333 : decode cL_law 333 = .ok (.iload_n 3, 1) := by decide +kernel
theorem dL_law_334 : decode cL_law 334 = .ok (.iconst 1, 1) := by decide +kernel
theorem dL_law_335 : decode cL_law 335 = .ok (.iadd, 1) := by decide +kernel
theorem dL_law_336 : decode cL_law 336 = .ok (.iaload, 1) := by decide +kernel
theorem dL_law_337 : decode cL_law 337 = .ok (.invokevirtual 46, 3) := by decide +kernel
theorem dL_law_340 : decode cL_law 340 = .ok (.if_icmp .eq 744, 3) := by decide +kernel
theorem dL_law_343 : decode cL_law 343 = .ok (.iconst 0, 1) := by decide +kernel
theorem dL_law_344 : decode cL_law 344 = .ok (.ireturn, 1) := by decide +kernel
theorem dL_law_345 : decode cL_law 345 = .ok (.aload_n 1, 1) := by decide +kernel
theorem dL_law_346 : decode cL_law 346 = .ok (.aload_n 0, 1) := by decide +kernel
theorem dL_law_347 : decode cL_law 347 = .ok (.iload_n 3, 1) := by decide +kernel
theorem dL_law_348 : decode cL_law 348 = .ok (.iconst 1, 1) := by decide +kernel
theorem dL_law_349 : decode cL_law 349 = .ok (.iadd, 1) := by decide +kernel
theorem dL_law_350 : decode cL_law 350 = .ok (.iaload, 1) := by decide +kernel
theorem dL_law_351 : decode cL_law 351 = .ok (.aload_n 0, 1) := by decide +kernel
theorem dL_law_352 : decode cL_law 352 = .ok (.iload_n 3, 1) := by decide +kernel
theorem dL_law_353 : decode cL_law 353 = .ok (.iconst 2, 1) := by decide +kernel
theorem dL_law_354 : decode cL_law 354 = .ok (.iadd, 1) := by decide +kernel
theorem dL_law_355 : decode cL_law 355 = .ok (.iaload, 1) := by decide +kernel
theorem dL_law_356 : decode cL_law 356 = .ok (.invokevirtual 47, 3) := by decide +kernel
theorem dL_law_359 : decode cL_law 359 = .ok (.aload_n 2, 1) := by decide +kernel
theorem dL_law_360 : decode cL_law 360 = .ok (.aload_n 0, 1) := by decide +kernel
theorem dL_law_361 : decode cL_law 361 = .ok (.iload_n 3, 1) := by decide +kernel
theorem dL_law_362 : decode cL_law 362 = .ok (.iconst 1, 1) := by decide +kernel
theorem dL_law_363 : decode cL_law 363 = .ok (.iadd, 1) := by decide +kernel
theorem dL_law_364 : decode cL_law 364 = .ok (.iaload, 1) := by decide +kernel
theorem dL_law_365 : decode cL_law 365 = .ok (.aload_n 0, 1) := by decide +kernel
theorem dL_law_366 : decode cL_law 366 = .ok (.iload_n 3, 1) := by decide +kernel
theorem dL_law_367 : decode cL_law 367 = .ok (.iconst 2, 1) := by decide +kernel
theorem dL_law_368 : decode cL_law 368 = .ok (.iadd, 1) := by decide +kernel
theorem dL_law_369 : decode cL_law 369 = .ok (.iaload, 1) := by decide +kernel
theorem dL_law_370 : decode cL_law 370 = .ok (.invokevirtual 50, 3) := by decide +kernel
theorem dL_law_373 : decode cL_law 373 = .ok (.if_icmp .eq 711, 3) := by decide +kernel
theorem dL_law_376 : decode cL_law 376 = .ok (.iconst 0, 1) := by decide +kernel
theorem dL_law_377 : decode cL_law 377 = .ok (.ireturn, 1) := by decide +kernel
theorem dL_law_378 : decode cL_law 378 = .ok (.aload_n 1, 1) := by decide +kernel
theorem dL_law_379 : decode cL_law 379 = .ok (.aload_n 0, 1) := by decide +kernel
theorem dL_law_380 : decode cL_law 380 = .ok (.iload_n 3, 1) := by decide +kernel
theorem dL_law_381 : decode cL_law 381 = .ok (.iconst 1, 1) := by decide +kernel
theorem dL_law_382 : decode cL_law 382 = .ok (.iadd, 1) := by decide +kernel
theorem dL_law_383 : decode cL_law 383 = .ok (.iaload, 1) := by decide +kernel
theorem dL_law_384 : decode cL_law 384 = .ok (.aload_n 0, 1) := by decide +kernel
theorem dL_law_385 : decode cL_law 385 = .ok (.iload_n 3, 1) := by decide +kernel
theorem dL_law_386 : decode cL_law 386 = .ok (.iconst 2, 1) := by decide +kernel
theorem dL_law_387 : decode cL_law 387 = .ok (.iadd, 1) := by decide +kernel
theorem dL_law_388 : decode cL_law 388 = .ok (.iaload, 1) := by decide +kernel
theorem dL_law_389 : decode cL_law 389 = .ok (.invokevirtual 51, 3) := by decide +kernel
theorem dL_law_392 : decode cL_law 392 = .ok (.aload_n 2, 1) := by decide +kernel
theorem dL_law_393 : decode cL_law 393 = .ok (.aload_n 0, 1) := by decide +kernel
theorem dL_law_394 : decode cL_law 394 = .ok (.iload_n 3, 1) := by decide +kernel
theorem dL_law_395 : decode cL_law 395 = .ok (.iconst 1, 1) := by decide +kernel
theorem dL_law_396 : decode cL_law 396 = .ok (.iadd, 1) := by decide +kernel
theorem dL_law_397 : decode cL_law 397 = .ok (.iaload, 1) := by decide +kernel
theorem dL_law_398 : decode cL_law 398 = .ok (.aload_n 0, 1) := by decide +kernel
theorem dL_law_399 : decode cL_law 399 = .ok (.iload_n 3, 1) := by decide +kernel
theorem dL_law_400 : decode cL_law 400 = .ok (.iconst 2, 1) := by decide +kernel
theorem dL_law_401 : decode cL_law 401 = .ok (.iadd, 1) := by decide +kernel
theorem dL_law_402 : decode cL_law 402 = .ok (.iaload, 1) := by decide +kernel
theorem dL_law_403 : decode cL_law 403 = .ok (.invokevirtual 54, 3) := by decide +kernel
theorem dL_law_406 : decode cL_law 406 = .ok (.if_icmp .eq 678, 3) := by decide +kernel
theorem dL_law_409 : decode cL_law 409 = .ok (.iconst 0, 1) := by decide +kernel
theorem dL_law_410 : decode cL_law 410 = .ok (.ireturn, 1) := by decide +kernel
theorem dL_law_411 : decode cL_law 411 = .ok (.aload_n 1, 1) := by decide +kernel
theorem dL_law_412 : decode cL_law 412 = .ok (.aload_n 0, 1) := by decide +kernel
theorem dL_law_413 : decode cL_law 413 = .ok (.iload_n 3, 1) := by decide +kernel
theorem dL_law_414 : decode cL_law 414 = .ok (.iconst 1, 1) := by decide +kernel
theorem dL_law_415 : decode cL_law 415 = .ok (.iadd, 1) := by decide +kernel
theorem dL_law_416 : decode cL_law 416 = .ok (.iaload, 1) := by decide +kernel
theorem dL_law_417 : decode cL_law 417 = .ok (.invokevirtual 55, 3) := by decide +kernel
theorem dL_law_420 : decode cL_law 420 = .ok (.aload_n 2, 1) := by decide +kernel
theorem dL_law_421 : decode cL_law 421 = .ok (.aload_n 0, 1) := by decide +kernel
theorem dL_law_422 : decode cL_law 422 = .ok (.iload_n 3, 1) := by decide +kernel
theorem dL_law_423 : decode cL_law 423 = .ok (.iconst 1, 1) := by decide +kernel
theorem dL_law_424 : decode cL_law 424 = .ok (.iadd, 1) := by decide +kernel
theorem dL_law_425 : decode cL_law 425 = .ok (.iaload, 1) := by decide +kernel
theorem dL_law_426 : decode cL_law 426 = .ok (.invokevirtual 58, 3) := by decide +kernel
theorem dL_law_429 : decode cL_law 429 = .ok (.if_icmp .eq 655, 3) := by decide +kernel
theorem dL_law_432 : decode cL_law 432 = .ok (.iconst 0, 1) := by decide +kernel
theorem dL_law_433 : decode cL_law 433 = .ok (.ireturn, 1) := by decide +kernel
theorem dL_law_434 : decode cL_law 434 = .ok (.aload_n 1, 1) := by decide +kernel
theorem dL_law_435 : decode cL_law 435 = .ok (.aload_n 0, 1) := by decide +kernel
theorem dL_law_436 : decode cL_law 436 = .ok (.iload_n 3, 1) := by decide +kernel
theorem dL_law_437 : decode cL_law 437 = .ok (.iconst 1, 1) := by decide +kernel
theorem dL_law_438 : decode cL_law 438 = .ok (.iadd, 1) := by decide +kernel
theorem dL_law_439 : decode cL_law 439 = .ok (.iaload, 1) := by decide +kernel
theorem dL_law_440 : decode cL_law 440 = .ok (.invokevirtual 59, 3) := by decide +kernel
theorem dL_law_443 : decode cL_law 443 = .ok (.aload_n 2, 1) := by decide +kernel
theorem dL_law_444 : decode cL_law 444 = .ok (.aload_n 0, 1) := by decide +kernel
theorem dL_law_445 : decode cL_law 445 = .ok (.iload_n 3, 1) := by decide +kernel
theorem dL_law_446 : decode cL_law 446 = .ok (.iconst 1, 1) := by decide +kernel
theorem dL_law_447 : decode cL_law 447 = .ok (.iadd, 1) := by decide +kernel
theorem dL_law_448 : decode cL_law 448 = .ok (.iaload, 1) := by decide +kernel
theorem dL_law_449 : decode cL_law 449 = .ok (.invokevirtual 62, 3) := by decide +kernel
theorem dL_law_452 : decode cL_law 452 = .ok (.if_icmp .eq 632, 3) := by decide +kernel
theorem dL_law_455 : decode cL_law 455 = .ok (.iconst 0, 1) := by decide +kernel
theorem dL_law_456 : decode cL_law 456 = .ok (.ireturn, 1) := by decide +kernel
theorem dL_law_457 : decode cL_law 457 = .ok (.aload_n 1, 1) := by decide +kernel
theorem dL_law_458 : decode cL_law 458 = .ok (.aload_n 0, 1) := by decide +kernel
theorem dL_law_459 : decode cL_law 459 = .ok (.iload_n 3, 1) := by decide +kernel
theorem dL_law_460 : decode cL_law 460 = .ok (.iconst 1, 1) := by decide +kernel
theorem dL_law_461 : decode cL_law 461 = .ok (.iadd, 1) := by decide +kernel
theorem dL_law_462 : decode cL_law 462 = .ok (.iaload, 1) := by decide +kernel
theorem dL_law_463 : decode cL_law 463 = .ok (.invokevirtual 63, 3) := by decide +kernel
theorem dL_law_466 : decode cL_law 466 = .ok (.aload_n 2, 1) := by decide +kernel
theorem dL_law_467 : decode cL_law 467 = .ok (.aload_n 0, 1) := by decide +kernel
theorem dL_law_468 : decode cL_law 468 = .ok (.iload_n 3, 1) := by decide +kernel
theorem dL_law_469 : decode cL_law 469 = .ok (.iconst 1, 1) := by decide +kernel
theorem dL_law_470 : decode cL_law 470 = .ok (.iadd, 1) := by decide +kernel
theorem dL_law_471 : decode cL_law 471 = .ok (.iaload, 1) := by decide +kernel
theorem dL_law_472 : decode cL_law 472 = .ok (.invokevirtual 66, 3) := by decide +kernel
theorem dL_law_475 : decode cL_law 475 = .ok (.if_icmp .eq 609, 3) := by decide +kernel
theorem dL_law_478 : decode cL_law 478 = .ok (.iconst 0, 1) := by decide +kernel
theorem dL_law_479 : decode cL_law 479 = .ok (.ireturn, 1) := by decide +kernel
theorem dL_law_480 : decode cL_law 480 = .ok (.aload_n 1, 1) := by decide +kernel
theorem dL_law_481 : decode cL_law 481 = .ok (.aload_n 0, 1) := by decide +kernel
theorem dL_law_482 : decode cL_law 482 = .ok (.iload_n 3, 1) := by decide +kernel
theorem dL_law_483 : decode cL_law 483 = .ok (.iconst 1, 1) := by decide +kernel
theorem dL_law_484 : decode cL_law 484 = .ok (.iadd, 1) := by decide +kernel
theorem dL_law_485 : decode cL_law 485 = .ok (.iaload, 1) := by decide +kernel
theorem dL_law_486 : decode cL_law 486 = .ok (.invokevirtual 67, 3) := by decide +kernel
theorem dL_law_489 : decode cL_law 489 = .ok (.aload_n 2, 1) := by decide +kernel
theorem dL_law_490 : decode cL_law 490 = .ok (.aload_n 0, 1) := by decide +kernel
theorem dL_law_491 : decode cL_law 491 = .ok (.iload_n 3, 1) := by decide +kernel
theorem dL_law_492 : decode cL_law 492 = .ok (.iconst 1, 1) := by decide +kernel
theorem dL_law_493 : decode cL_law 493 = .ok (.iadd, 1) := by decide +kernel
theorem dL_law_494 : decode cL_law 494 = .ok (.iaload, 1) := by decide +kernel
theorem dL_law_495 : decode cL_law 495 = .ok (.invokevirtual 70, 3) := by decide +kernel
theorem dL_law_498 : decode cL_law 498 = .ok (.if_icmp .eq 586, 3) := by decide +kernel
theorem dL_law_501 : decode cL_law 501 = .ok (.iconst 0, 1) := by decide +kernel
theorem dL_law_502 : decode cL_law 502 = .ok (.ireturn, 1) := by decide +kernel
theorem dL_law_503 : decode cL_law 503 = .ok (.aload_n 1, 1) := by decide +kernel
theorem dL_law_504 : decode cL_law 504 = .ok (.invokevirtual 71, 3) := by decide +kernel
theorem dL_law_507 : decode cL_law 507 = .ok (.aload_n 2, 1) := by decide +kernel
theorem dL_law_508 : decode cL_law 508 = .ok (.invokevirtual 74, 3) := by decide +kernel
theorem dL_law_511 : decode cL_law 511 = .ok (.if_icmp .eq 573, 3) := by decide +kernel
theorem dL_law_514 : decode cL_law 514 = .ok (.iconst 0, 1) := by decide +kernel
theorem dL_law_515 : decode cL_law 515 = .ok (.ireturn, 1) := by decide +kernel
theorem dL_law_516 : decode cL_law 516 = .ok (.aload_n 1, 1) := by decide +kernel
theorem dL_law_517 : decode cL_law 517 = .ok (.aload_n 0, 1) := by decide +kernel
theorem dL_law_518 : decode cL_law 518 = .ok (.iload_n 3, 1) := by decide +kernel
theorem dL_law_519 : decode cL_law 519 = .ok (.iconst 1, 1) := by decide +kernel
theorem dL_law_520 : decode cL_law 520 = .ok (.iadd, 1) := by decide +kernel
theorem dL_law_521 : decode cL_law 521 = .ok (.iaload, 1) := by decide +kernel
theorem dL_law_522 : decode cL_law 522 = .ok (.aload_n 0, 1) := by decide +kernel
theorem dL_law_523 : decode cL_law 523 = .ok (.iload_n 3, 1) := by decide +kernel
theorem dL_law_524 : decode cL_law 524 = .ok (.iconst 2, 1) := by decide +kernel
theorem dL_law_525 : decode cL_law 525 = .ok (.iadd, 1) := by decide +kernel
theorem dL_law_526 : decode cL_law 526 = .ok (.iaload, 1) := by decide +kernel
theorem dL_law_527 : decode cL_law 527 = .ok (.aload_n 0, 1) := by decide +kernel
theorem dL_law_528 : decode cL_law 528 = .ok (.iload_n 3, 1) := by decide +kernel
theorem dL_law_529 : decode cL_law 529 = .ok (.iconst 3, 1) := by decide +kernel
theorem dL_law_530 : decode cL_law 530 = .ok (.iadd, 1) := by decide +kernel
theorem dL_law_531 : decode cL_law 531 = .ok (.iaload, 1) := by decide +kernel
theorem dL_law_532 : decode cL_law 532 = .ok (.invokevirtual 75, 3) := by decide +kernel
theorem dL_law_535 : decode cL_law 535 = .ok (.aload_n 2, 1) := by decide +kernel
theorem dL_law_536 : decode cL_law 536 = .ok (.aload_n 0, 1) := by decide +kernel
theorem dL_law_537 : decode cL_law 537 = .ok (.iload_n 3, 1) := by decide +kernel
theorem dL_law_538 : decode cL_law 538 = .ok (.iconst 1, 1) := by decide +kernel
theorem dL_law_539 : decode cL_law 539 = .ok (.iadd, 1) := by decide +kernel
theorem dL_law_540 : decode cL_law 540 = .ok (.iaload, 1) := by decide +kernel
theorem dL_law_541 : decode cL_law 541 = .ok (.aload_n 0, 1) := by decide +kernel
theorem dL_law_542 : decode cL_law 542 = .ok (.iload_n 3, 1) := by decide +kernel
theorem dL_law_543 : decode cL_law 543 = .ok (.iconst 2, 1) := by decide +kernel
theorem dL_law_544 : decode cL_law 544 = .ok (.iadd, 1) := by decide +kernel
theorem dL_law_545 : decode cL_law 545 = .ok (.iaload, 1) := by decide +kernel
theorem dL_law_546 : decode cL_law 546 = .ok (.aload_n 0, 1) := by decide +kernel
theorem dL_law_547 : decode cL_law 547 = .ok (.iload_n 3, 1) := by decide +kernel
theorem dL_law_548 : decode cL_law 548 = .ok (.iconst 3, 1) := by decide +kernel
theorem dL_law_549 : decode cL_law 549 = .ok (.iadd, 1) := by decide +kernel
theorem dL_law_550 : decode cL_law 550 = .ok (.iaload, 1) := by decide +kernel
theorem dL_law_551 : decode cL_law 551 = .ok (.invokevirtual 79, 3) := by decide +kernel
theorem dL_law_554 : decode cL_law 554 = .ok (.if_icmp .eq 530, 3) := by decide +kernel
theorem dL_law_557 : decode cL_law 557 = .ok (.iconst 0, 1) := by decide +kernel
theorem dL_law_558 : decode cL_law 558 = .ok (.ireturn, 1) := by decide +kernel
theorem dL_law_559 : decode cL_law 559 = .ok (.aload_n 1, 1) := by decide +kernel
theorem dL_law_560 : decode cL_law 560 = .ok (.aload_n 0, 1) := by decide +kernel
theorem dL_law_561 : decode cL_law 561 = .ok (.iload_n 3, 1) := by decide +kernel
theorem dL_law_562 : decode cL_law 562 = .ok (.iconst 1, 1) := by decide +kernel
theorem dL_law_563 : decode cL_law 563 = .ok (.iadd, 1) := by decide +kernel
theorem dL_law_564 : decode cL_law 564 = .ok (.iaload, 1) := by decide +kernel
theorem dL_law_565 : decode cL_law 565 = .ok (.aload_n 0, 1) := by decide +kernel
theorem dL_law_566 : decode cL_law 566 = .ok (.iload_n 3, 1) := by decide +kernel
theorem dL_law_567 : decode cL_law 567 = .ok (.iconst 2, 1) := by decide +kernel
theorem dL_law_568 : decode cL_law 568 = .ok (.iadd, 1) := by decide +kernel
theorem dL_law_569 : decode cL_law 569 = .ok (.iaload, 1) := by decide +kernel
theorem dL_law_570 : decode cL_law 570 = .ok (.aload_n 0, 1) := by decide +kernel
theorem dL_law_571 : decode cL_law 571 = .ok (.iload_n 3, 1) := by decide +kernel
theorem dL_law_572 : decode cL_law 572 = .ok (.iconst 3, 1) := by decide +kernel
theorem dL_law_573 : decode cL_law 573 = .ok (.iadd, 1) := by decide +kernel
theorem dL_law_574 : decode cL_law 574 = .ok (.iaload, 1) := by decide +kernel
theorem dL_law_575 : decode cL_law 575 = .ok (.invokevirtual 80, 3) := by decide +kernel
theorem dL_law_578 : decode cL_law 578 = .ok (.aload_n 2, 1) := by decide +kernel
theorem dL_law_579 : decode cL_law 579 = .ok (.aload_n 0, 1) := by decide +kernel
theorem dL_law_580 : decode cL_law 580 = .ok (.iload_n 3, 1) := by decide +kernel
theorem dL_law_581 : decode cL_law 581 = .ok (.iconst 1, 1) := by decide +kernel
theorem dL_law_582 : decode cL_law 582 = .ok (.iadd, 1) := by decide +kernel
theorem dL_law_583 : decode cL_law 583 = .ok (.iaload, 1) := by decide +kernel
theorem dL_law_584 : decode cL_law 584 = .ok (.aload_n 0, 1) := by decide +kernel
theorem dL_law_585 : decode cL_law 585 = .ok (.iload_n 3, 1) := by decide +kernel
theorem dL_law_586 : decode cL_law 586 = .ok (.iconst 2, 1) := by decide +kernel
theorem dL_law_587 : decode cL_law 587 = .ok (.iadd, 1) := by decide +kernel
theorem dL_law_588 : decode cL_law 588 = .ok (.iaload, 1) := by decide +kernel
theorem dL_law_589 : decode cL_law 589 = .ok (.aload_n 0, 1) := by decide +kernel
theorem dL_law_590 : decode cL_law 590 = .ok (.iload_n 3, 1) := by decide +kernel
theorem dL_law_591 : decode cL_law 591 = .ok (.iconst 3, 1) := by decide +kernel
theorem dL_law_592 : decode cL_law 592 = .ok (.iadd, 1) := by decide +kernel
theorem dL_law_593 : decode cL_law 593 = .ok (.iaload, 1) := by decide +kernel
theorem dL_law_594 : decode cL_law 594 = .ok (.invokevirtual 83, 3) := by decide +kernel
theorem dL_law_597 : decode cL_law 597 = .ok (.if_icmp .eq 487, 3) := by decide +kernel
theorem dL_law_600 : decode cL_law 600 = .ok (.iconst 0, 1) := by decide +kernel
theorem dL_law_601 : decode cL_law 601 = .ok (.ireturn, 1) := by decide +kernel
theorem dL_law_602 : decode cL_law 602 = .ok (.aload_n 1, 1) := by decide +kernel
theorem dL_law_603 : decode cL_law 603 = .ok (.aload_n 0, 1) := by decide +kernel
theorem dL_law_604 : decode cL_law 604 = .ok (.iload_n 3, 1) := by decide +kernel
theorem dL_law_605 : decode cL_law 605 = .ok (.iconst 1, 1) := by decide +kernel
theorem dL_law_606 : decode cL_law 606 = .ok (.iadd, 1) := by decide +kernel
theorem dL_law_607 : decode cL_law 607 = .ok (.iaload, 1) := by decide +kernel
theorem dL_law_608 : decode cL_law 608 = .ok (.aload_n 0, 1) := by decide +kernel
theorem dL_law_609 : decode cL_law 609 = .ok (.iload_n 3, 1) := by decide +kernel
theorem dL_law_610 : decode cL_law 610 = .ok (.iconst 2, 1) := by decide +kernel
theorem dL_law_611 : decode cL_law 611 = .ok (.iadd, 1) := by decide +kernel
theorem dL_law_612 : decode cL_law 612 = .ok (.iaload, 1) := by decide +kernel
theorem dL_law_613 : decode cL_law 613 = .ok (.aload_n 0, 1) := by decide +kernel
theorem dL_law_614 : decode cL_law 614 = .ok (.iload_n 3, 1) := by decide +kernel
theorem dL_law_615 : decode cL_law 615 = .ok (.iconst 3, 1) := by decide +kernel
theorem dL_law_616 : decode cL_law 616 = .ok (.iadd, 1) := by decide +kernel
theorem dL_law_617 : decode cL_law 617 = .ok (.iaload, 1) := by decide +kernel
theorem dL_law_618 : decode cL_law 618 = .ok (.invokevirtual 84, 3) := by decide +kernel
theorem dL_law_621 : decode cL_law 621 = .ok (.aload_n 2, 1) := by decide +kernel
theorem dL_law_622 : decode cL_law 622 = .ok (.aload_n 0, 1) := by decide +kernel
theorem dL_law_623 : decode cL_law 623 = .ok (.iload_n 3, 1) := by decide +kernel
theorem dL_law_624 : decode cL_law 624 = .ok (.iconst 1, 1) := by decide +kernel
theorem dL_law_625 : decode cL_law 625 = .ok (.iadd, 1) := by decide +kernel
theorem dL_law_626 : decode cL_law 626 = .ok (.iaload, 1) := by decide +kernel
theorem dL_law_627 : decode cL_law 627 = .ok (.aload_n 0, 1) := by decide +kernel
theorem dL_law_628 : decode cL_law 628 = .ok (.iload_n 3, 1) := by decide +kernel
theorem dL_law_629 : decode cL_law 629 = .ok (.iconst 2, 1) := by decide +kernel
theorem dL_law_630 : decode cL_law 630 = .ok (.iadd, 1) := by decide +kernel
theorem dL_law_631 : decode cL_law 631 = .ok (.iaload, 1) := by decide +kernel
theorem dL_law_632 : decode cL_law 632 = .ok (.aload_n 0, 1) := by decide +kernel
theorem dL_law_633 : decode cL_law 633 = .ok (.iload_n 3, 1) := by decide +kernel
theorem dL_law_634 : decode cL_law 634 = .ok (.iconst 3, 1) := by decide +kernel
theorem dL_law_635 : decode cL_law 635 = .ok (.iadd, 1) := by decide +kernel
theorem dL_law_636 : decode cL_law 636 = .ok (.iaload, 1) := by decide +kernel
theorem dL_law_637 : decode cL_law 637 = .ok (.invokevirtual 87, 3) := by decide +kernel
theorem dL_law_640 : decode cL_law 640 = .ok (.if_icmp .eq 444, 3) := by decide +kernel
theorem dL_law_643 : decode cL_law 643 = .ok (.iconst 0, 1) := by decide +kernel
theorem dL_law_644 : decode cL_law 644 = .ok (.ireturn, 1) := by decide +kernel
theorem dL_law_645 : decode cL_law 645 = .ok (.aload_n 1, 1) := by decide +kernel
theorem dL_law_646 : decode cL_law 646 = .ok (.aload_n 0, 1) := by decide +kernel
theorem dL_law_647 : decode cL_law 647 = .ok (.iload_n 3, 1) := by decide +kernel
theorem dL_law_648 : decode cL_law 648 = .ok (.iconst 1, 1) := by decide +kernel
theorem dL_law_649 : decode cL_law 649 = .ok (.iadd, 1) := by decide +kernel
theorem dL_law_650 : decode cL_law 650 = .ok (.iaload, 1) := by decide +kernel
theorem dL_law_651 : decode cL_law 651 = .ok (.aload_n 0, 1) := by decide +kernel
theorem dL_law_652 : decode cL_law 652 = .ok (.iload_n 3, 1) := by decide +kernel
theorem dL_law_653 : decode cL_law 653 = .ok (.iconst 2, 1) := by decide +kernel
theorem dL_law_654 : decode cL_law 654 = .ok (.iadd, 1) := by decide +kernel
theorem dL_law_655 : decode cL_law 655 = .ok (.iaload, 1) := by decide +kernel
theorem dL_law_656 : decode cL_law 656 = .ok (.i2l, 1) := by decide +kernel
theorem dL_law_657 : decode cL_law 657 = .ok (.bipush 32, 2) := by decide +kernel
theorem dL_law_659 : decode cL_law 659 = .ok (.lshl, 1) := by decide +kernel
theorem dL_law_660 : decode cL_law 660 = .ok (.aload_n 0, 1) := by decide +kernel
theorem dL_law_661 : decode cL_law 661 = .ok (.iload_n 3, 1) := by decide +kernel
theorem dL_law_662 : decode cL_law 662 = .ok (.iconst 3, 1) := by decide +kernel
theorem dL_law_663 : decode cL_law 663 = .ok (.iadd, 1) := by decide +kernel
theorem dL_law_664 : decode cL_law 664 = .ok (.iaload, 1) := by decide +kernel
theorem dL_law_665 : decode cL_law 665 = .ok (.i2l, 1) := by decide +kernel
theorem dL_law_666 : decode cL_law 666 = .ok (.ldc2_w 31, 3) := by decide +kernel
theorem dL_law_669 : decode cL_law 669 = .ok (.land, 1) := by decide +kernel
theorem dL_law_670 : decode cL_law 670 = .ok (.lor, 1) := by decide +kernel
theorem dL_law_671 : decode cL_law 671 = .ok (.invokevirtual 88, 3) := by decide +kernel
theorem dL_law_674 : decode cL_law 674 = .ok (.aload_n 2, 1) := by decide +kernel
theorem dL_law_675 : decode cL_law 675 = .ok (.aload_n 0, 1) := by decide +kernel
theorem dL_law_676 : decode cL_law 676 = .ok (.iload_n 3, 1) := by decide +kernel
theorem dL_law_677 : decode cL_law 677 = .ok (.iconst 1, 1) := by decide +kernel
theorem dL_law_678 : decode cL_law 678 = .ok (.iadd, 1) := by decide +kernel
theorem dL_law_679 : decode cL_law 679 = .ok (.iaload, 1) := by decide +kernel
theorem dL_law_680 : decode cL_law 680 = .ok (.aload_n 0, 1) := by decide +kernel
theorem dL_law_681 : decode cL_law 681 = .ok (.iload_n 3, 1) := by decide +kernel
theorem dL_law_682 : decode cL_law 682 = .ok (.iconst 2, 1) := by decide +kernel
theorem dL_law_683 : decode cL_law 683 = .ok (.iadd, 1) := by decide +kernel
theorem dL_law_684 : decode cL_law 684 = .ok (.iaload, 1) := by decide +kernel
theorem dL_law_685 : decode cL_law 685 = .ok (.i2l, 1) := by decide +kernel
theorem dL_law_686 : decode cL_law 686 = .ok (.bipush 32, 2) := by decide +kernel
theorem dL_law_688 : decode cL_law 688 = .ok (.lshl, 1) := by decide +kernel
theorem dL_law_689 : decode cL_law 689 = .ok (.aload_n 0, 1) := by decide +kernel
theorem dL_law_690 : decode cL_law 690 = .ok (.iload_n 3, 1) := by decide +kernel
theorem dL_law_691 : decode cL_law 691 = .ok (.iconst 3, 1) := by decide +kernel
theorem dL_law_692 : decode cL_law 692 = .ok (.iadd, 1) := by decide +kernel
theorem dL_law_693 : decode cL_law 693 = .ok (.iaload, 1) := by decide +kernel
theorem dL_law_694 : decode cL_law 694 = .ok (.i2l, 1) := by decide +kernel
theorem dL_law_695 : decode cL_law 695 = .ok (.ldc2_w 31, 3) := by decide +kernel
theorem dL_law_698 : decode cL_law 698 = .ok (.land, 1) := by decide +kernel
theorem dL_law_699 : decode cL_law 699 = .ok (.lor, 1) := by decide +kernel
theorem dL_law_700 : decode cL_law 700 = .ok (.invokevirtual 91, 3) := by decide +kernel
theorem dL_law_703 : decode cL_law 703 = .ok (.if_icmp .eq 381, 3) := by decide +kernel
theorem dL_law_706 : decode cL_law 706 = .ok (.iconst 0, 1) := by decide +kernel
theorem dL_law_707 : decode cL_law 707 = .ok (.ireturn, 1) := by decide +kernel
theorem dL_law_708 : decode cL_law 708 = .ok (.aload_n 1, 1) := by decide +kernel
theorem dL_law_709 : decode cL_law 709 = .ok (.aload_n 0, 1) := by decide +kernel
theorem dL_law_710 : decode cL_law 710 = .ok (.iload_n 3, 1) := by decide +kernel
theorem dL_law_711 : decode cL_law 711 = .ok (.iconst 1, 1) := by decide +kernel
theorem dL_law_712 : decode cL_law 712 = .ok (.iadd, 1) := by decide +kernel
theorem dL_law_713 : decode cL_law 713 = .ok (.iaload, 1) := by decide +kernel
theorem dL_law_714 : decode cL_law 714 = .ok (.aload_n 0, 1) := by decide +kernel
theorem dL_law_715 : decode cL_law 715 = .ok (.iload_n 3, 1) := by decide +kernel
theorem dL_law_716 : decode cL_law 716 = .ok (.iconst 2, 1) := by decide +kernel
theorem dL_law_717 : decode cL_law 717 = .ok (.iadd, 1) := by decide +kernel
theorem dL_law_718 : decode cL_law 718 = .ok (.iaload, 1) := by decide +kernel
theorem dL_law_719 : decode cL_law 719 = .ok (.invokevirtual 92, 3) := by decide +kernel
theorem dL_law_722 : decode cL_law 722 = .ok (.aload_n 2, 1) := by decide +kernel
theorem dL_law_723 : decode cL_law 723 = .ok (.aload_n 0, 1) := by decide +kernel
theorem dL_law_724 : decode cL_law 724 = .ok (.iload_n 3, 1) := by decide +kernel
theorem dL_law_725 : decode cL_law 725 = .ok (.iconst 1, 1) := by decide +kernel
theorem dL_law_726 : decode cL_law 726 = .ok (.iadd, 1) := by decide +kernel
theorem dL_law_727 : decode cL_law 727 = .ok (.iaload, 1) := by decide +kernel
theorem dL_law_728 : decode cL_law 728 = .ok (.aload_n 0, 1) := by decide +kernel
theorem dL_law_729 : decode cL_law 729 = .ok (.iload_n 3, 1) := by decide +kernel
theorem dL_law_730 : decode cL_law 730 = .ok (.iconst 2, 1) := by decide +kernel
theorem dL_law_731 : decode cL_law 731 = .ok (.iadd, 1) := by decide +kernel
theorem dL_law_732 : decode cL_law 732 = .ok (.iaload, 1) := by decide +kernel
theorem dL_law_733 : decode cL_law 733 = .ok (.invokevirtual 95, 3) := by decide +kernel
theorem dL_law_736 : decode cL_law 736 = .ok (.if_icmp .eq 348, 3) := by decide +kernel
theorem dL_law_739 : decode cL_law 739 = .ok (.iconst 0, 1) := by decide +kernel
theorem dL_law_740 : decode cL_law 740 = .ok (.ireturn, 1) := by decide +kernel
theorem dL_law_741 : decode cL_law 741 = .ok (.aload_n 1, 1) := by decide +kernel
theorem dL_law_742 : decode cL_law 742 = .ok (.invokevirtual 96, 3) := by decide +kernel
theorem dL_law_745 : decode cL_law 745 = .ok (.aload_n 2, 1) := by decide +kernel
theorem dL_law_746 : decode cL_law 746 = .ok (.invokevirtual 99, 3) := by decide +kernel
theorem dL_law_749 : decode cL_law 749 = .ok (.if_icmp .eq 335, 3) := by decide +kernel
theorem dL_law_752 : decode cL_law 752 = .ok (.iconst 0, 1) := by decide +kernel
theorem dL_law_753 : decode cL_law 753 = .ok (.ireturn, 1) := by decide +kernel
theorem dL_law_754 : decode cL_law 754 = .ok (.aload_n 1, 1) := by decide +kernel
theorem dL_law_755 : decode cL_law 755 = .ok (.aload_n 0, 1) := by decide +kernel
theorem dL_law_756 : decode cL_law 756 = .ok (.iload_n 3, 1) := by decide +kernel
theorem dL_law_757 : decode cL_law 757 = .ok (.iconst 1, 1) := by decide +kernel
theorem dL_law_758 : decode cL_law 758 = .ok (.iadd, 1) := by decide +kernel
theorem dL_law_759 : decode cL_law 759 = .ok (.iaload, 1) := by decide +kernel
theorem dL_law_760 : decode cL_law 760 = .ok (.invokevirtual 100, 3) := by decide +kernel
theorem dL_law_763 : decode cL_law 763 = .ok (.aload_n 2, 1) := by decide +kernel
theorem dL_law_764 : decode cL_law 764 = .ok (.aload_n 0, 1) := by decide +kernel
theorem dL_law_765 : decode cL_law 765 = .ok (.iload_n 3, 1) := by decide +kernel
theorem dL_law_766 : decode cL_law 766 = .ok (.iconst 1, 1) := by decide +kernel
theorem dL_law_767 : decode cL_law 767 = .ok (.iadd, 1) := by decide +kernel
theorem dL_law_768 : decode cL_law 768 = .ok (.iaload, 1) := by decide +kernel
theorem dL_law_769 : decode cL_law 769 = .ok (.invokevirtual 103, 3) := by decide +kernel
theorem dL_law_772 : decode cL_law 772 = .ok (.if_icmp .eq 312, 3) := by decide +kernel
theorem dL_law_775 : decode cL_law 775 = .ok (.iconst 0, 1) := by decide +kernel
theorem dL_law_776 : decode cL_law 776 = .ok (.ireturn, 1) := by decide +kernel
theorem dL_law_777 : decode cL_law 777 = .ok (.aload_n 1, 1) := by decide +kernel
theorem dL_law_778 : decode cL_law 778 = .ok (.aload_n 0, 1) := by decide +kernel
theorem dL_law_779 : decode cL_law 779 = .ok (.iload_n 3, 1) := by decide +kernel
theorem dL_law_780 : decode cL_law 780 = .ok (.iconst 1, 1) := by decide +kernel
theorem dL_law_781 : decode cL_law 781 = .ok (.iadd, 1) := by decide +kernel
theorem dL_law_782 : decode cL_law 782 = .ok (.iaload, 1) := by decide +kernel
theorem dL_law_783 : decode cL_law 783 = .ok (.aload_n 0, 1) := by decide +kernel
theorem dL_law_784 : decode cL_law 784 = .ok (.iload_n 3, 1) := by decide +kernel
theorem dL_law_785 : decode cL_law 785 = .ok (.iconst 2, 1) := by decide +kernel
theorem dL_law_786 : decode cL_law 786 = .ok (.iadd, 1) := by decide +kernel
theorem dL_law_787 : decode cL_law 787 = .ok (.iaload, 1) := by decide +kernel
theorem dL_law_788 : decode cL_law 788 = .ok (.ifCond .eq 7, 3) := by decide +kernel
theorem dL_law_791 : decode cL_law 791 = .ok (.iconst 1, 1) := by decide +kernel
theorem dL_law_792 : decode cL_law 792 = .ok (.goto 4, 3) := by decide +kernel
theorem dL_law_795 : decode cL_law 795 = .ok (.iconst 0, 1) := by decide +kernel
theorem dL_law_796 : decode cL_law 796 = .ok (.invokevirtual 104, 3) := by decide +kernel
theorem dL_law_799 : decode cL_law 799 = .ok (.aload_n 2, 1) := by decide +kernel
theorem dL_law_800 : decode cL_law 800 = .ok (.aload_n 0, 1) := by decide +kernel
theorem dL_law_801 : decode cL_law 801 = .ok (.iload_n 3, 1) := by decide +kernel
theorem dL_law_802 : decode cL_law 802 = .ok (.iconst 1, 1) := by decide +kernel
theorem dL_law_803 : decode cL_law 803 = .ok (.iadd, 1) := by decide +kernel
theorem dL_law_804 : decode cL_law 804 = .ok (.iaload, 1) := by decide +kernel
theorem dL_law_805 : decode cL_law 805 = .ok (.aload_n 0, 1) := by decide +kernel
theorem dL_law_806 : decode cL_law 806 = .ok (.iload_n 3, 1) := by decide +kernel
theorem dL_law_807 : decode cL_law 807 = .ok (.iconst 2, 1) := by decide +kernel
theorem dL_law_808 : decode cL_law 808 = .ok (.iadd, 1) := by decide +kernel
theorem dL_law_809 : decode cL_law 809 = .ok (.iaload, 1) := by decide +kernel
theorem dL_law_810 : decode cL_law 810 = .ok (.ifCond .eq 7, 3) := by decide +kernel
theorem dL_law_813 : decode cL_law 813 = .ok (.iconst 1, 1) := by decide +kernel
theorem dL_law_814 : decode cL_law 814 = .ok (.goto 4, 3) := by decide +kernel
theorem dL_law_817 : decode cL_law 817 = .ok (.iconst 0, 1) := by decide +kernel
theorem dL_law_818 : decode cL_law 818 = .ok (.invokevirtual 108, 3) := by decide +kernel
theorem dL_law_821 : decode cL_law 821 = .ok (.if_icmp .eq 263, 3) := by decide +kernel
theorem dL_law_824 : decode cL_law 824 = .ok (.iconst 0, 1) := by decide +kernel
theorem dL_law_825 : decode cL_law 825 = .ok (.ireturn, 1) := by decide +kernel
theorem dL_law_826 : decode cL_law 826 = .ok (.aload_n 1, 1) := by decide +kernel
theorem dL_law_827 : decode cL_law 827 = .ok (.aload_n 0, 1) := by decide +kernel
theorem dL_law_828 : decode cL_law 828 = .ok (.iload_n 3, 1) := by decide +kernel
theorem dL_law_829 : decode cL_law 829 = .ok (.iconst 1, 1) := by decide +kernel
theorem dL_law_830 : decode cL_law 830 = .ok (.iadd, 1) := by decide +kernel
theorem dL_law_831 : decode cL_law 831 = .ok (.iaload, 1) := by decide +kernel
theorem dL_law_832 : decode cL_law 832 = .ok (.aload_n 0, 1) := by decide +kernel
theorem dL_law_833 : decode cL_law 833 = .ok (.iload_n 3, 1) := by decide +kernel
theorem dL_law_834 : decode cL_law 834 = .ok (.iconst 2, 1) := by decide +kernel
theorem dL_law_835 : decode cL_law 835 = .ok (.iadd, 1) := by decide +kernel
theorem dL_law_836 : decode cL_law 836 = .ok (.iaload, 1) := by decide +kernel
theorem dL_law_837 : decode cL_law 837 = .ok (.aload_n 0, 1) := by decide +kernel
theorem dL_law_838 : decode cL_law 838 = .ok (.iload_n 3, 1) := by decide +kernel
theorem dL_law_839 : decode cL_law 839 = .ok (.iconst 3, 1) := by decide +kernel
theorem dL_law_840 : decode cL_law 840 = .ok (.iadd, 1) := by decide +kernel
theorem dL_law_841 : decode cL_law 841 = .ok (.iaload, 1) := by decide +kernel
theorem dL_law_842 : decode cL_law 842 = .ok (.invokevirtual 109, 3) := by decide +kernel
theorem dL_law_845 : decode cL_law 845 = .ok (.aload_n 2, 1) := by decide +kernel
theorem dL_law_846 : decode cL_law 846 = .ok (.aload_n 0, 1) := by decide +kernel
theorem dL_law_847 : decode cL_law 847 = .ok (.iload_n 3, 1) := by decide +kernel
theorem dL_law_848 : decode cL_law 848 = .ok (.iconst 1, 1) := by decide +kernel
theorem dL_law_849 : decode cL_law 849 = .ok (.iadd, 1) := by decide +kernel
theorem dL_law_850 : decode cL_law 850 = .ok (.iaload, 1) := by decide +kernel
theorem dL_law_851 : decode cL_law 851 = .ok (.aload_n 0, 1) := by decide +kernel
theorem dL_law_852 : decode cL_law 852 = .ok (.iload_n 3, 1) := by decide +kernel
theorem dL_law_853 : decode cL_law 853 = .ok (.iconst 2, 1) := by decide +kernel
theorem dL_law_854 : decode cL_law 854 = .ok (.iadd, 1) := by decide +kernel
theorem dL_law_855 : decode cL_law 855 = .ok (.iaload, 1) := by decide +kernel
theorem dL_law_856 : decode cL_law 856 = .ok (.aload_n 0, 1) := by decide +kernel
theorem dL_law_857 : decode cL_law 857 = .ok (.iload_n 3, 1) := by decide +kernel
theorem dL_law_858 : decode cL_law 858 = .ok (.iconst 3, 1) := by decide +kernel
theorem dL_law_859 : decode cL_law 859 = .ok (.iadd, 1) := by decide +kernel
theorem dL_law_860 : decode cL_law 860 = .ok (.iaload, 1) := by decide +kernel
theorem dL_law_861 : decode cL_law 861 = .ok (.invokevirtual 112, 3) := by decide +kernel
theorem dL_law_864 : decode cL_law 864 = .ok (.if_icmp .eq 220, 3) := by decide +kernel
theorem dL_law_867 : decode cL_law 867 = .ok (.iconst 0, 1) := by decide +kernel
theorem dL_law_868 : decode cL_law 868 = .ok (.ireturn, 1) := by decide +kernel
theorem dL_law_869 : decode cL_law 869 = .ok (.aload_n 1, 1) := by decide +kernel
theorem dL_law_870 : decode cL_law 870 = .ok (.aload_n 0, 1) := by decide +kernel
theorem dL_law_871 : decode cL_law 871 = .ok (.iload_n 3, 1) := by decide +kernel
theorem dL_law_872 : decode cL_law 872 = .ok (.iconst 1, 1) := by decide +kernel
theorem dL_law_873 : decode cL_law 873 = .ok (.iadd, 1) := by decide +kernel
theorem dL_law_874 : decode cL_law 874 = .ok (.iaload, 1) := by decide +kernel
theorem dL_law_875 : decode cL_law 875 = .ok (.aload_n 0, 1) := by decide +kernel
theorem dL_law_876 : decode cL_law 876 = .ok (.iload_n 3, 1) := by decide +kernel
theorem dL_law_877 : decode cL_law 877 = .ok (.iconst 2, 1) := by decide +kernel
theorem dL_law_878 : decode cL_law 878 = .ok (.iadd, 1) := by decide +kernel
theorem dL_law_879 : decode cL_law 879 = .ok (.iaload, 1) := by decide +kernel
theorem dL_law_880 : decode cL_law 880 = .ok (.aload_n 0, 1) := by decide +kernel
theorem dL_law_881 : decode cL_law 881 = .ok (.iload_n 3, 1) := by decide +kernel
theorem dL_law_882 : decode cL_law 882 = .ok (.iconst 3, 1) := by decide +kernel
theorem dL_law_883 : decode cL_law 883 = .ok (.iadd, 1) := by decide +kernel
theorem dL_law_884 : decode cL_law 884 = .ok (.iaload, 1) := by decide +kernel
theorem dL_law_885 : decode cL_law 885 = .ok (.aload_n 0, 1) := by decide +kernel
theorem dL_law_886 : decode cL_law 886 = .ok (.iload_n 3, 1) := by decide +kernel
theorem dL_law_887 : decode cL_law 887 = .ok (.iconst 4, 1) := by decide +kernel
theorem dL_law_888 : decode cL_law 888 = .ok (.iadd, 1) := by decide +kernel
theorem dL_law_889 : decode cL_law 889 = .ok (.iaload, 1) := by decide +kernel
theorem dL_law_890 : decode cL_law 890 = .ok (.ifCond .eq 7, 3) := by decide +kernel
theorem dL_law_893 : decode cL_law 893 = .ok (.iconst 1, 1) := by decide +kernel
theorem dL_law_894 : decode cL_law 894 = .ok (.goto 4, 3) := by decide +kernel
theorem dL_law_897 : decode cL_law 897 = .ok (.iconst 0, 1) := by decide +kernel
theorem dL_law_898 : decode cL_law 898 = .ok (.invokevirtual 113, 3) := by decide +kernel
theorem dL_law_901 : decode cL_law 901 = .ok (.aload_n 2, 1) := by decide +kernel
theorem dL_law_902 : decode cL_law 902 = .ok (.aload_n 0, 1) := by decide +kernel
theorem dL_law_903 : decode cL_law 903 = .ok (.iload_n 3, 1) := by decide +kernel
theorem dL_law_904 : decode cL_law 904 = .ok (.iconst 1, 1) := by decide +kernel
theorem dL_law_905 : decode cL_law 905 = .ok (.iadd, 1) := by decide +kernel
theorem dL_law_906 : decode cL_law 906 = .ok (.iaload, 1) := by decide +kernel
theorem dL_law_907 : decode cL_law 907 = .ok (.aload_n 0, 1) := by decide +kernel
theorem dL_law_908 : decode cL_law 908 = .ok (.iload_n 3, 1) := by decide +kernel
theorem dL_law_909 : decode cL_law 909 = .ok (.iconst 2, 1) := by decide +kernel
theorem dL_law_910 : decode cL_law 910 = .ok (.iadd, 1) := by decide +kernel
theorem dL_law_911 : decode cL_law 911 = .ok (.iaload, 1) := by decide +kernel
theorem dL_law_912 : decode cL_law 912 = .ok (.aload_n 0, 1) := by decide +kernel
theorem dL_law_913 : decode cL_law 913 = .ok (.iload_n 3, 1) := by decide +kernel
theorem dL_law_914 : decode cL_law 914 = .ok (.iconst 3, 1) := by decide +kernel
theorem dL_law_915 : decode cL_law 915 = .ok (.iadd, 1) := by decide +kernel
theorem dL_law_916 : decode cL_law 916 = .ok (.iaload, 1) := by decide +kernel
theorem dL_law_917 : decode cL_law 917 = .ok (.aload_n 0, 1) := by decide +kernel
theorem dL_law_918 : decode cL_law 918 = .ok (.iload_n 3, 1) := by decide +kernel
theorem dL_law_919 : decode cL_law 919 = .ok (.iconst 4, 1) := by decide +kernel
theorem dL_law_920 : decode cL_law 920 = .ok (.iadd, 1) := by decide +kernel
theorem dL_law_921 : decode cL_law 921 = .ok (.iaload, 1) := by decide +kernel
theorem dL_law_922 : decode cL_law 922 = .ok (.ifCond .eq 7, 3) := by decide +kernel
theorem dL_law_925 : decode cL_law 925 = .ok (.iconst 1, 1) := by decide +kernel
theorem dL_law_926 : decode cL_law 926 = .ok (.goto 4, 3) := by decide +kernel
theorem dL_law_929 : decode cL_law 929 = .ok (.iconst 0, 1) := by decide +kernel
theorem dL_law_930 : decode cL_law 930 = .ok (.invokevirtual 117, 3) := by decide +kernel
theorem dL_law_933 : decode cL_law 933 = .ok (.if_icmp .eq 151, 3) := by decide +kernel
theorem dL_law_936 : decode cL_law 936 = .ok (.iconst 0, 1) := by decide +kernel
theorem dL_law_937 : decode cL_law 937 = .ok (.ireturn, 1) := by decide +kernel
theorem dL_law_938 : decode cL_law 938 = .ok (.aload_n 1, 1) := by decide +kernel
theorem dL_law_939 : decode cL_law 939 = .ok (.aload_n 0, 1) := by decide +kernel
theorem dL_law_940 : decode cL_law 940 = .ok (.iload_n 3, 1) := by decide +kernel
theorem dL_law_941 : decode cL_law 941 = .ok (.iconst 1, 1) := by decide +kernel
theorem dL_law_942 : decode cL_law 942 = .ok (.iadd, 1) := by decide +kernel
theorem dL_law_943 : decode cL_law 943 = .ok (.iaload, 1) := by decide +kernel
theorem dL_law_944 : decode cL_law 944 = .ok (.i2l, 1) := by decide +kernel
theorem dL_law_945 : decode cL_law 945 = .ok (.bipush 32, 2) := by decide +kernel
theorem dL_law_947 : decode cL_law 947 = .ok (.lshl, 1) := by decide +kernel
theorem dL_law_948 : decode cL_law 948 = .ok (.aload_n 0, 1) := by decide +kernel
theorem dL_law_949 : decode cL_law 949 = .ok (.iload_n 3, 1) := by decide +kernel
theorem dL_law_950 : decode cL_law 950 = .ok (.iconst 2, 1) := by decide +kernel
theorem dL_law_951 : decode cL_law 951 = .ok (.iadd, 1) := by decide +kernel
theorem dL_law_952 : decode cL_law 952 = .ok (.iaload, 1) := by decide +kernel
theorem dL_law_953 : decode cL_law 953 = .ok (.i2l, 1) := by decide +kernel
theorem dL_law_954 : decode cL_law 954 = .ok (.ldc2_w 31, 3) := by decide +kernel
theorem dL_law_957 : decode cL_law 957 = .ok (.land, 1) := by decide +kernel
theorem dL_law_958 : decode cL_law 958 = .ok (.lor, 1) := by decide +kernel
theorem dL_law_959 : decode cL_law 959 = .ok (.invokevirtual 118, 3) := by decide +kernel
theorem dL_law_962 : decode cL_law 962 = .ok (.aload_n 2, 1) := by decide +kernel
theorem dL_law_963 : decode cL_law 963 = .ok (.aload_n 0, 1) := by decide +kernel
theorem dL_law_964 : decode cL_law 964 = .ok (.iload_n 3, 1) := by decide +kernel
theorem dL_law_965 : decode cL_law 965 = .ok (.iconst 1, 1) := by decide +kernel
theorem dL_law_966 : decode cL_law 966 = .ok (.iadd, 1) := by decide +kernel
theorem dL_law_967 : decode cL_law 967 = .ok (.iaload, 1) := by decide +kernel
theorem dL_law_968 : decode cL_law 968 = .ok (.i2l, 1) := by decide +kernel
theorem dL_law_969 : decode cL_law 969 = .ok (.bipush 32, 2) := by decide +kernel
theorem dL_law_971 : decode cL_law 971 = .ok (.lshl, 1) := by decide +kernel
theorem dL_law_972 : decode cL_law 972 = .ok (.aload_n 0, 1) := by decide +kernel
theorem dL_law_973 : decode cL_law 973 = .ok (.iload_n 3, 1) := by decide +kernel
theorem dL_law_974 : decode cL_law 974 = .ok (.iconst 2, 1) := by decide +kernel
theorem dL_law_975 : decode cL_law 975 = .ok (.iadd, 1) := by decide +kernel
theorem dL_law_976 : decode cL_law 976 = .ok (.iaload, 1) := by decide +kernel
theorem dL_law_977 : decode cL_law 977 = .ok (.i2l, 1) := by decide +kernel
theorem dL_law_978 : decode cL_law 978 = .ok (.ldc2_w 31, 3) := by decide +kernel
theorem dL_law_981 : decode cL_law 981 = .ok (.land, 1) := by decide +kernel
theorem dL_law_982 : decode cL_law 982 = .ok (.lor, 1) := by decide +kernel
theorem dL_law_983 : decode cL_law 983 = .ok (.invokevirtual 122, 3) := by decide +kernel
theorem dL_law_986 : decode cL_law 986 = .ok (.lcmp, 1) := by decide +kernel
theorem dL_law_987 : decode cL_law 987 = .ok (.ifCond .eq 97, 3) := by decide +kernel
theorem dL_law_990 : decode cL_law 990 = .ok (.iconst 0, 1) := by decide +kernel
theorem dL_law_991 : decode cL_law 991 = .ok (.ireturn, 1) := by decide +kernel
theorem dL_law_992 : decode cL_law 992 = .ok (.aload_n 1, 1) := by decide +kernel
theorem dL_law_993 : decode cL_law 993 = .ok (.aload_n 0, 1) := by decide +kernel
theorem dL_law_994 : decode cL_law 994 = .ok (.iload_n 3, 1) := by decide +kernel
theorem dL_law_995 : decode cL_law 995 = .ok (.iconst 1, 1) := by decide +kernel
theorem dL_law_996 : decode cL_law 996 = .ok (.iadd, 1) := by decide +kernel
theorem dL_law_997 : decode cL_law 997 = .ok (.iaload, 1) := by decide +kernel
theorem dL_law_998 : decode cL_law 998 = .ok (.invokevirtual 123, 3) := by decide +kernel
theorem dL_law_1001 : decode cL_law 1001 = .ok (.aload_n 2, 1) := by decide +kernel
theorem dL_law_1002 : decode cL_law 1002 = .ok (.aload_n 0, 1) := by decide +kernel
theorem dL_law_1003 : decode cL_law 1003 = .ok (.iload_n 3, 1) := by decide +kernel
theorem dL_law_1004 : decode cL_law 1004 = .ok (.iconst 1, 1) := by decide +kernel
theorem dL_law_1005 : decode cL_law 1005 = .ok (.iadd, 1) := by decide +kernel
theorem dL_law_1006 : decode cL_law 1006 = .ok (.iaload, 1) := by decide +kernel
theorem dL_law_1007 : decode cL_law 1007 = .ok (.invokevirtual 126, 3) := by decide +kernel
theorem dL_law_1010 : decode cL_law 1010 = .ok (.if_icmp .eq 74, 3) := by decide +kernel
theorem dL_law_1013 : decode cL_law 1013 = .ok (.iconst 0, 1) := by decide +kernel
theorem dL_law_1014 : decode cL_law 1014 = .ok (.ireturn, 1) := by decide +kernel
theorem dL_law_1015 : decode cL_law 1015 = .ok (.aload_n 1, 1) := by decide +kernel
theorem dL_law_1016 : decode cL_law 1016 = .ok (.aload_n 0, 1) := by decide +kernel
theorem dL_law_1017 : decode cL_law 1017 = .ok (.iload_n 3, 1) := by decide +kernel
theorem dL_law_1018 : decode cL_law 1018 = .ok (.iconst 1, 1) := by decide +kernel
theorem dL_law_1019 : decode cL_law 1019 = .ok (.iadd, 1) := by decide +kernel
theorem dL_law_1020 : decode cL_law 1020 = .ok (.iaload, 1) := by decide +kernel
theorem dL_law_1021 : decode cL_law 1021 = .ok (.invokevirtual 127, 3) := by decide +kernel
theorem dL_law_1024 : decode cL_law 1024 = .ok (.aload_n 2, 1) := by decide +kernel
theorem dL_law_1025 : decode cL_law 1025 = .ok (.aload_n 0, 1) := by decide +kernel
theorem dL_law_1026 : decode cL_law 1026 = .ok (.iload_n 3, 1) := by decide +kernel
theorem dL_law_1027 : decode cL_law 1027 = .ok (.iconst 1, 1) := by decide +kernel
theorem dL_law_1028 : decode cL_law 1028 = .ok (.iadd, 1) := by decide +kernel
theorem dL_law_1029 : decode cL_law 1029 = .ok (.iaload, 1) := by decide +kernel
theorem dL_law_1030 : decode cL_law 1030 = .ok (.invokevirtual 130, 3) := by decide +kernel
theorem dL_law_1033 : decode cL_law 1033 = .ok (.if_icmp .eq 51, 3) := by decide +kernel
theorem dL_law_1036 : decode cL_law 1036 = .ok (.iconst 0, 1) := by decide +kernel
theorem dL_law_1037 : decode cL_law 1037 = .ok (.ireturn, 1) := by decide +kernel
theorem dL_law_1038 : decode cL_law 1038 = .ok (.aload_n 1, 1) := by decide +kernel
theorem dL_law_1039 : decode cL_law 1039 = .ok (.aload_n 0, 1) := by decide +kernel
theorem dL_law_1040 : decode cL_law 1040 = .ok (.iload_n 3, 1) := by decide +kernel
theorem dL_law_1041 : decode cL_law 1041 = .ok (.iconst 1, 1) := by decide +kernel
theorem dL_law_1042 : decode cL_law 1042 = .ok (.iadd, 1) := by decide +kernel
theorem dL_law_1043 : decode cL_law 1043 = .ok (.iaload, 1) := by decide +kernel
theorem dL_law_1044 : decode cL_law 1044 = .ok (.invokevirtual 131, 3) := by decide +kernel
theorem dL_law_1047 : decode cL_law 1047 = .ok (.aload_n 2, 1) := by decide +kernel
theorem dL_law_1048 : decode cL_law 1048 = .ok (.aload_n 0, 1) := by decide +kernel
theorem dL_law_1049 : decode cL_law 1049 = .ok (.iload_n 3, 1) := by decide +kernel
theorem dL_law_1050 : decode cL_law 1050 = .ok (.iconst 1, 1) := by decide +kernel
theorem dL_law_1051 : decode cL_law 1051 = .ok (.iadd, 1) := by decide +kernel
theorem dL_law_1052 : decode cL_law 1052 = .ok (.iaload, 1) := by decide +kernel
theorem dL_law_1053 : decode cL_law 1053 = .ok (.invokevirtual 134, 3) := by decide +kernel
theorem dL_law_1056 : decode cL_law 1056 = .ok (.if_icmp .eq 28, 3) := by decide +kernel
theorem dL_law_1059 : decode cL_law 1059 = .ok (.iconst 0, 1) := by decide +kernel
theorem dL_law_1060 : decode cL_law 1060 = .ok (.ireturn, 1) := by decide +kernel
theorem dL_law_1061 : decode cL_law 1061 = .ok (.aload_n 1, 1) := by decide +kernel
theorem dL_law_1062 : decode cL_law 1062 = .ok (.aload_n 0, 1) := by decide +kernel
theorem dL_law_1063 : decode cL_law 1063 = .ok (.iload_n 3, 1) := by decide +kernel
theorem dL_law_1064 : decode cL_law 1064 = .ok (.iconst 1, 1) := by decide +kernel
theorem dL_law_1065 : decode cL_law 1065 = .ok (.iadd, 1) := by decide +kernel
theorem dL_law_1066 : decode cL_law 1066 = .ok (.iaload, 1) := by decide +kernel
theorem dL_law_1067 : decode cL_law 1067 = .ok (.invokevirtual 135, 3) := by decide +kernel
theorem dL_law_1070 : decode cL_law 1070 = .ok (.aload_n 2, 1) := by decide +kernel
theorem dL_law_1071 : decode cL_law 1071 = .ok (.aload_n 0, 1) := by decide +kernel
theorem dL_law_1072 : decode cL_law 1072 = .ok (.iload_n 3, 1) := by decide +kernel
theorem dL_law_1073 : decode cL_law 1073 = .ok (.iconst 1, 1) := by decide +kernel
theorem dL_law_1074 : decode cL_law 1074 = .ok (.iadd, 1) := by decide +kernel
theorem dL_law_1075 : decode cL_law 1075 = .ok (.iaload, 1) := by decide +kernel
theorem dL_law_1076 : decode cL_law 1076 = .ok (.invokevirtual 138, 3) := by decide +kernel
theorem dL_law_1079 : decode cL_law 1079 = .ok (.if_icmp .eq 5, 3) := by decide +kernel
theorem dL_law_1082 : decode cL_law 1082 = .ok (.iconst 0, 1) := by decide +kernel
theorem dL_law_1083 : decode cL_law 1083 = .ok (.ireturn, 1) := by decide +kernel
theorem dL_law_1084 : decode cL_law 1084 = .ok (.iinc 3 5, 3) := by decide +kernel
theorem dL_law_1087 : decode cL_law 1087 = .ok (.goto (-1069), 3) := by decide +kernel
theorem dL_law_1090 : decode cL_law 1090 = .ok (.iconst 1, 1) := by decide +kernel
theorem dL_law_1091 : decode cL_law 1091 = .ok (.ireturn, 1) := by decide +kernel
end
section
/-! PLACES: every cell of the two worlds has a number (0 to 92); the six static arrays are 100 to 105 -/
abbrev Mm : Type := Nat → Nat → Int32
abbrev Lm : Type := Nat → Int64
def kdL : List Nat := [9, 6, 11, 8, 11, 4, 14, 11, 2, 2, 2, 2, 4, 14, 11, 2, 2, 2, 2, 4, 14, 11, 2, 2, 2, 2, 4, 14, 11, 2, 2, 2, 2, 5, 5, 15, 11, 11, 1, 13, 0, 0, 0, 0, 0, 0, 0, 0, 0, 0, 0, 0, 0, 0, 2, 2, 2, 2, 2, 2, 2, 2, 2, 2, 2, 2, 2, 2, 3, 11, 11, 2, 7, 11, 11, 11, 11, 11, 11, 10, 11, 11, 11, 11, 11, 11, 11, 11, 11, 11, 11, 12, 11]
def kd (k : Nat) : Nat := kdL.getD k 99
def nfL : List Nat := [5, 3, 7, 4, 4, 2, 2, 6, 2, 11, 25]
def nf (c : Nat) : Nat := nfL.getD c 0
def ftL : List (List Nat) := [[2, 0, 0, 0, 0], [2, 0, 0], [0, 0, 0, 0, 0, 0, 1], [2, 2, 2, 0], [2, 2, 0, 0], [2, 1], [2, 0], [2, 2, 2, 2, 2, 2], [2, 0], [2, 2, 2, 2, 2, 2, 2, 2, 2, 2, 3], [0, 2, 2, 2, 2, 2, 0, 0, 2, 0, 0, 0, 0, 2, 0, 0, 0, 2, 2, 0, 2, 2, 3, 2, 2]]
def ft (c j : Nat) : Nat := (ftL.getD c []).getD j 9
def lnL : List Nat := [0, 0, 48, 0, 8, 0, 4, 25, 0, 0, 0, 0, 0, 4, 25, 0, 0, 0, 0, 0, 4, 25, 0, 0, 0, 0, 0, 4, 25, 0, 0, 0, 0, 0, 0, 2, 4, 4, 0, 14, 0, 0, 0, 0, 0, 0, 0, 0, 0, 0, 0, 0, 0, 0, 0, 0, 0, 0, 0, 0, 0, 0, 0, 0, 0, 0, 0, 0, 0, 6, 6, 0, 0, 8, 25, 25, 25, 25, 25, 0, 4, 4, 86, 20, 8, 48, 8, 602, 25, 6, 6, 2, 86]
def ln (k : Nat) : Nat := lnL.getD k 0
def tpL : List (List Nat) := [[1, 3, 5, 12, 38, 68, 72, 35, 36, 37, 0], [2], [], [4], [], [6, 7], [8, 9, 10, 11], [], [], [], [], [], [13, 14], [15, 16, 17, 18], [], [], [], [], [], [20, 21], [22, 23, 24, 25], [], [], [], [], [], [27, 28], [29, 30, 31, 32], [], [], [], [], [], [19], [26], [33, 34], [], [], [39], [40, 41, 42, 43, 44, 45, 46, 47, 48, 49, 50, 51, 52, 53], [54], [55], [56], [57], [58], [59], [60], [61], [62], [63], [64], [65], [66], [67], [], [], [], [], [], [], [], [], [], [], [], [], [], [], [69, 70, 71], [], [], [], [73, 74, 75, 76, 77, 78], [], [], [], [], [], [], [0, 80, 81, 82, 83, 84, 0, 0, 85, 0, 0, 0, 0, 86, 0, 0, 0, 87, 88, 0, 89, 90, 0, 91, 92], [], [], [], [], [], [], [], [], [], [], [], [], []]
def tp (k j : Nat) : Nat := (tpL.getD k []).getD j 0
def snL : List String := ["RIGHT", "UP", "PEN_FIGURES", "STAIN_FIGURES", "ORDERS", "TENS"]
def sN (j : Nat) : String := snL.getD j ""
def sD (j : Nat) : String := if j = 5 then "[J" else "[I"
def sT (j : Nat) : FieldType := if j = 5 then .long else .int
def slL : List Nat := [8, 8, 6, 3, 5, 13]
def sL (j : Nat) : Nat := slL.getD j 0
def svL : List (List Int32) := [[1, 1, 0, -1, -1, -1, 0, 1], [0, 1, 1, 1, 0, -1, -1, -1], [4, 4, 3, 6, 6, 9], [4, 4, 9], [1, 1, 2, 6, 24]]
def svI (j i : Nat) : Int32 := (svL.getD j []).getD i 0
def tenL : List Int64 := [1, 10, 100, 1000, 10000, 100000, 1000000, 10000000, 100000000, 1000000000, 10000000000, 100000000000, 1000000000000]
def svJ (i : Nat) : Int64 := tenL.getD i 0
def sV (j i : Nat) : Value := if j = 5 then .long (svJ i) else .int (svI j i)
def upd2 (v : Mm) (k j : Nat) (x : Int32) : Mm := fun a b => if a = k ∧ b = j then x else v a b
def updA (v : Mm) (k : Nat) (f : Nat → Int32) : Mm := fun a => if a = k then f else v a
def updl (v : Lm) (k : Nat) (x : Int64) : Lm := fun a => if a = k then x else v a
def trv (ad : Nat → Nat) (x : Value) : Value := match x with
  | .ref k => .ref (ad k)
  | y => y
def fval (ad : Nat → Nat) (v : Mm) (L : Lm) (k j : Nat) : Value := if ft (kd k) j = 2 then .ref (ad (tp k j)) else if ft (kd k) j = 3 then .long (L k) else .int (v k j)
def cellE (ad : Nat → Nat) (cy : Nat → ClassId) (v : Mm) (L : Lm) (k : Nat) : va_E :=
  if kd k < 11 then .inr (kd k, (List.range (nf (kd k))).map (fval ad v L k))
  else if kd k < 13 then .inl (cy (kd k), ln k, .inl (v k))
  else .inl (cy (kd k), ln k, .inr (.inr (.inr (.inr (fun j => some (ad (tp k j)))))))
def wsW (ad : Nat → Nat) (cy : Nat → ClassId) (v : Mm) (L : Lm) : va_W := (List.range 93).map (fun k => (ad k, cellE ad cy v L k))
def tysW (cy : Nat → ClassId) : List (ClassId × FieldType) := [(cy 11, .int), (cy 12, .boolean), (cy 13, .object "BroadNib$Act"), (cy 14, .object "BroadNib$Pen"), (cy 15, .object "BroadNib$Slot")]
def isNest (w : Cond) : Bool := match w with
  | .methodLinkNest _ _ _ _ => true
  | .fieldLinkNest _ _ _ _ _ _ => true
  | _ => false
def nestW : List Cond := lw_tbl.filter isNest
def lw_g : List Cond := lw_tbl.filter goodWord
theorem in_g {w : Cond} (i : Nat) (h : lw_tbl[i]? = some w) (hg : goodWord w = true) : w ∈ lw_g := List.mem_filter.mpr ⟨List.mem_of_getElem? h, hg⟩
theorem in_n {w : Cond} (i : Nat) (h : lw_tbl[i]? = some w) (hg : isNest w = true) : w ∈ nestW := List.mem_filter.mpr ⟨List.mem_of_getElem? h, hg⟩
theorem good_g {w : Cond} (h : w ∈ lw_g) : goodWord w = true := (List.mem_filter.mp h).2
theorem kd_lt {k : Nat} (h : kd k < 99) : k < 93 := by
  rcases Nat.lt_or_ge k 93 with q | q
  · exact q
  · exfalso
    have : kd k = 99 := by
      unfold kd
      rw [List.getD_eq_getElem?_getD, List.getElem?_eq_none (by show 93 ≤ k; exact q)]
      rfl
    omega
theorem wsW_get {ad : Nat → Nat} {cy : Nat → ClassId} {v : Mm} {L : Lm} {k : Nat} (h : k < 93) : (wsW ad cy v L)[k]? = some (ad k, cellE ad cy v L k) := by
  unfold wsW
  rw [List.getElem?_map, List.getElem?_range h]
  rfl
theorem cellE_congr {ad : Nat → Nat} {cy : Nat → ClassId} {v v' : Mm} {L L' : Lm} {k : Nat} (hv : v k = v' k) (hL : L k = L' k) : cellE ad cy v L k = cellE ad cy v' L' k := by
  have hf : fval ad v L k = fval ad v' L' k := by
    funext j
    unfold fval
    rw [hv, hL]
  unfold cellE
  rw [hf, hv]
theorem wsW_set {ad : Nat → Nat} {cy : Nat → ClassId} {v v' : Mm} {L L' : Lm} {k : Nat} (h : k < 93) (hv : ∀ i, i ≠ k → v i = v' i) (hL : ∀ i, i ≠ k → L i = L' i) : (wsW ad cy v L).set k (ad k, cellE ad cy v' L' k) = wsW ad cy v' L' := by
  apply List.ext_getElem?
  intro i
  by_cases e : i = k
  · subst e
    rw [wsW_get h, List.getElem?_set_self (by unfold wsW; rw [List.length_map, List.length_range]; exact h)]
  · rw [List.getElem?_set_ne (Ne.symm e)]
    unfold wsW
    rw [List.getElem?_map, List.getElem?_map]
    rcases Nat.lt_or_ge i 93 with q | q
    · rw [List.getElem?_range q]
      show some (ad i, _) = some (ad i, _)
      rw [cellE_congr (hv i e) (hL i e)]
    · rw [List.getElem?_eq_none (by rw [List.length_range]; exact q)]
      rfl
def adD (z : Nat) (ad : Nat → Nat) : Prop := (∀ i j, i < 93 → j < 93 → ad i = ad j → i = j) ∧ ∀ i, i < 93 → z ≤ ad i
theorem wsW_at {ad : Nat → Nat} {cy : Nat → ClassId} {v : Mm} {L : Lm} {k : Nat} {q : Nat × va_E} (h : (wsW ad cy v L)[k]? = some q) : k < 93 ∧ q.1 = ad k := by
  rcases Nat.lt_or_ge k 93 with g | g
  · rw [wsW_get g] at h
    cases h
    exact ⟨g, rfl⟩
  · unfold wsW at h
    rw [List.getElem?_eq_none (by rw [List.length_map, List.length_range]; exact g)] at h
    cases h
theorem adD.D {z : Nat} {ad : Nat → Nat} (h : adD z ad) (cy : Nat → ClassId) (v : Mm) (L : Lm) : va_D (fun q => z ≤ q) (wsW ad cy v L) := by
  refine ⟨fun i j p q h1 h2 e => ?_, fun k q h1 => ?_⟩
  · obtain ⟨a1, a2⟩ := wsW_at h1
    obtain ⟨b1, b2⟩ := wsW_at h2
    exact h.1 i j a1 b1 (by rw [← a2, ← b2]; exact e)
  · obtain ⟨a1, a2⟩ := wsW_at h1
    show z ≤ q.1
    rw [a2]
    exact h.2 k a1
def Stx (ad : Nat → Nat) (z : Nat) (U : State) (H : Heap) : Prop := ∀ j, j < 6 → va_Z "BroadNib" (sN j) (sD j) (.ref (ad (100 + j))) (fun q => z ≤ q) U H ∧ va_T (sT j) (ad (100 + j)) (sL j) (sV j) (fun q => z ≤ q) U H
def Sx (D : va_G) (cy : Nat → ClassId) (ad : Nat → Nat) (z : Nat) (U : State) (H : Heap) : Prop := va_K D vwCl (tysW cy) U ∧ adD z ad ∧ z ≤ H.size ∧ Stx ad z U H ∧ ∀ w ∈ nestW, va_Nw w U
def Wd (D : va_G) (cy : Nat → ClassId) (ad : Nat → Nat) (z : Nat) (v : Mm) (L : Lm) (U : State) : Prop := Sx D cy ad z U U.heap ∧ va_P D vwCl (wsW ad cy v L) U.heap
theorem nest_warm {s U : State} (hW : s.WarmedH U.vm) (h : ∀ w ∈ nestW, va_Nw w s) : ∀ w ∈ nestW, va_Nw w U := by
  intro w hw
  have h1 := h w hw
  have h2 : isNest w = true := (List.mem_filter.mp hw).2
  cases w <;> first | exact va_Nw.warmM hW h1 | exact va_Nw.warmF hW h1 | (exfalso; revert h2; simp [isNest])
theorem nest_same {s U : State} (hW : s.vm = U.vm) (h : ∀ w ∈ nestW, va_Nw w s) : ∀ w ∈ nestW, va_Nw w U := by
  intro w hw
  have h1 := h w hw
  have h2 : isNest w = true := (List.mem_filter.mp hw).2
  refine va_Nw.same ?_ hW h1
  cases w <;> first | rfl | (exfalso; revert h2; simp [isNest]; done)
theorem Sx.move {D : va_G} {cy : Nat → ClassId} {ad : Nat → Nat} {z : Nat} {s U : State} {H0 H : Heap} (h : Sx D cy ad z s H0) (hW : s.WarmedH U.vm) (hz : H0.size ≤ H.size) (hq : ∀ q : Nat, q < H0.size → ¬ z ≤ q → H[q]? = H0[q]?) : Sx D cy ad z U H := by
  obtain ⟨h1, h2, h3, h4, h5⟩ := h
  refine ⟨va_K.moved hW.alike h1, h2, Nat.le_trans h3 hz, fun j hj => ?_, nest_warm hW h5⟩
  obtain ⟨a, b⟩ := h4 j hj
  exact ⟨(a.moved hW.alike).kept hq, (b.moved hW.alike).kept hq⟩
theorem Wd.blind {D : va_G} {cy : Nat → ClassId} {ad : Nat → Nat} {z : Nat} {v : Mm} {L : Lm} {av : List Value} : FrameBlind (va_Pc av (fun U => Wd D cy ad z v L U)) := by
  intro a U g mk q
  obtain ⟨q0, ⟨h1, h2, h3, h4, h5⟩, qP⟩ := q
  refine ⟨q0, ⟨va_K.moved (u := U) (U := U.calling g mk a) (Vm.Alike.refl U.vm) h1, h2, h3, fun j hj => ?_, nest_same (s := U) (U := U.calling g mk a) rfl h5⟩, qP⟩
  obtain ⟨a1, b1⟩ := h4 j hj
  exact ⟨a1.moved (U := U.calling g mk a) (Vm.Alike.refl U.vm), b1.moved (U := U.calling g mk a) (Vm.Alike.refl U.vm)⟩
/-! LOCALS -/
def lvs (ad : Nat → Nat) (ls : List (Option Value)) : List (Nat × Value) := (List.range ls.length).filterMap (fun i => (ls[i]?.join).map (fun x => (i, trv ad x)))
def LR (ad : Nat → Nat) (lsA : Array Slot) (nL : Nat) (ls : List (Option Value)) : Prop := lsA.size = nL ∧ lv_wf lsA ∧ ∀ (i : Nat) (x : Value), ls[i]? = some (some x) → lsA[i]? = some (.val (trv ad x))
theorem lvs_mem {ad : Nat → Nat} {ls : List (Option Value)} {q : Nat × Value} : q ∈ lvs ad ls ↔ ∃ x, ls[q.1]? = some (some x) ∧ q.2 = trv ad x := by
  unfold lvs
  rw [List.mem_filterMap]
  constructor
  · rintro ⟨i, -, h⟩
    cases e : ls[i]? with
    | none => rw [e] at h; cases h
    | some y =>
      cases y with
      | none => rw [e] at h; cases h
      | some x =>
        rw [e] at h
        cases h
        exact ⟨x, e, rfl⟩
  · rintro ⟨x, h1, h2⟩
    refine ⟨q.1, List.mem_range.mpr (List.getElem?_eq_some_iff.mp h1).1, ?_⟩
    rw [h1]
    show some (q.1, trv ad x) = some q
    rw [← h2]
theorem LR.has {ad : Nat → Nat} {lsA : Array Slot} {nL : Nat} {ls : List (Option Value)} (h : LR ad lsA nL ls) : lv_has lsA nL (lvs ad ls) := by
  refine ⟨h.1, h.2.1, fun q hq => ?_⟩
  obtain ⟨x, h1, h2⟩ := lvs_mem.mp hq
  rw [h2]
  exact h.2.2 _ _ h1
theorem trv_cat (ad : Nat → Nat) (x : Value) : (trv ad x).category = x.category := by cases x <;> rfl
/-- no long or double ends at this place -/
def okp (a : Option Value) : Bool := match a with
  | some x => x.category == 1
  | none => true
theorem LR.set {ad : Nat → Nat} {lsA : Array Slot} {nL : Nat} {ls : List (Option Value)} {i : Nat} {w : Value} (hp : ∀ j, j + 1 = i → ∀ a, ls[j]? = some a → okp a = true)
    (h : lv_has lsA nL ((i, trv ad w) :: (lvs ad ls).filter (fun q => !(q.1 == i) && !(q.1 + 1 == i && q.2.category == 2)))) : LR ad lsA nL (ls.set i (some w)) := by
  refine ⟨h.1, h.2.1, fun j x hx => ?_⟩
  by_cases e : j = i
  · subst e
    have hlt : j < ls.length := by
      have := (List.getElem?_eq_some_iff.mp hx).1
      rwa [List.length_set] at this
    rw [List.getElem?_set_self hlt] at hx
    cases hx
    exact h.2.2 _ (List.mem_cons_self)
  · rw [List.getElem?_set_ne (Ne.symm e)] at hx
    refine h.2.2 (j, trv ad x) (List.mem_cons_of_mem _ (List.mem_filter.mpr ⟨lvs_mem.mpr ⟨x, hx, rfl⟩, ?_⟩))
    have h1 : (j == i) = false := by simpa using e
    have h2 : ((j + 1 == i) && (trv ad x).category == 2) = false := by
      by_cases e2 : j + 1 = i
      · have h3 := hp j e2 _ hx
        simp only [okp, beq_iff_eq] at h3
        rw [trv_cat, h3]
        simp
      · have : (j + 1 == i) = false := by simpa using e2
        rw [this]
        rfl
    show (!(j == i) && !((j + 1 == i) && (trv ad x).category == 2)) = true
    rw [h1, h2]
    rfl
theorem LR.set2 {ad : Nat → Nat} {lsA : Array Slot} {nL : Nat} {ls : List (Option Value)} {i : Nat} {w : Value} (hp : ∀ j, j + 1 = i → ∀ a, ls[j]? = some a → okp a = true)
    (h : lv_has lsA nL ((i, trv ad w) :: (lvs ad ls).filter (fun q => !(q.1 == i) && (!(q.1 == i + 1) && !(q.1 + 1 == i && q.2.category == 2))))) : LR ad lsA nL ((ls.set i (some w)).set (i + 1) none) := by
  refine ⟨h.1, h.2.1, fun j x hx => ?_⟩
  by_cases e0 : j = i + 1
  · subst e0
    exfalso
    by_cases hlt : i + 1 < (ls.set i (some w)).length
    · rw [List.getElem?_set_self hlt] at hx
      cases hx
    · rw [List.getElem?_eq_none (by rw [List.length_set]; omega)] at hx
      cases hx
  rw [List.getElem?_set_ne (Ne.symm e0)] at hx
  by_cases e : j = i
  · subst e
    have hlt : j < ls.length := by
      have := (List.getElem?_eq_some_iff.mp hx).1
      rwa [List.length_set] at this
    rw [List.getElem?_set_self hlt] at hx
    cases hx
    exact h.2.2 _ (List.mem_cons_self)
  · rw [List.getElem?_set_ne (Ne.symm e)] at hx
    refine h.2.2 (j, trv ad x) (List.mem_cons_of_mem _ (List.mem_filter.mpr ⟨lvs_mem.mpr ⟨x, hx, rfl⟩, ?_⟩))
    have h1 : (j == i) = false := by simpa using e
    have h0 : (j == i + 1) = false := by simpa using e0
    have h2 : ((j + 1 == i) && (trv ad x).category == 2) = false := by
      by_cases e2 : j + 1 = i
      · have h3 := hp j e2 _ hx
        simp only [okp, beq_iff_eq] at h3
        rw [trv_cat, h3]
        simp
      · have : (j + 1 == i) = false := by simpa using e2
        rw [this]
        rfl
    show (!(j == i) && (!(j == i + 1) && !((j + 1 == i) && (trv ad x).category == 2))) = true
    rw [h1, h2, h0]
    rfl
/-- the locals with which a method begins -/
def ents : List Value → List (Option Value)
  | [] => []
  | x :: t => if x.category = 2 then some x :: none :: ents t else some x :: ents t
theorem ents_at (ad : Nat → Nat) : ∀ (vs : List Value) (n i j : Nat) (x : Value), (ents vs ++ List.replicate n none)[j]? = some (some x) → (i + j, trv ad x) ∈ lv_args i (vs.map (trv ad))
  | [], n, i, j, x, h => by
    exfalso
    have h1 := List.eq_of_mem_replicate (List.mem_of_getElem? h)
    cases h1
  | y :: t, n, i, j, x, h => by
    show (i + j, trv ad x) ∈ (i, trv ad y) :: lv_args (if (trv ad y).category = 2 then i + 2 else i + 1) (t.map (trv ad))
    rw [trv_cat]
    unfold ents at h
    by_cases hc : y.category = 2
    · rw [if_pos hc] at h ⊢
      match j, h with
      | 0, h => cases h; exact List.mem_cons_self
      | 1, h => cases h
      | j + 2, h =>
        have := ents_at ad t n (i + 2) j x h
        rw [show i + 2 + j = i + (j + 2) by omega] at this
        exact List.mem_cons_of_mem _ this
    · rw [if_neg hc] at h ⊢
      match j, h with
      | 0, h => cases h; exact List.mem_cons_self
      | j + 1, h =>
        have := ents_at ad t n (i + 1) j x h
        rw [show i + 1 + j = i + (j + 1) by omega] at this
        exact List.mem_cons_of_mem _ this
theorem ents_len (ad : Nat → Nat) : ∀ vs : List Value, (lg_sl (vs.map (trv ad))).length = (ents vs).length
  | [] => rfl
  | y :: t => by
    have ih := ents_len ad t
    unfold lg_sl at ih ⊢
    rw [List.map_cons, List.flatMap_cons, List.length_append, ih, trv_cat]
    rw [show ents (y :: t) = if y.category = 2 then some y :: none :: ents t else some y :: ents t from rfl]
    by_cases hc : y.category = 2
    · rw [if_pos hc, if_pos hc]; simp; omega
    · rw [if_neg hc, if_neg hc]; simp; omega
/-! THE JUDGEMENTS: Fq, a method's contract over the flat memory; G, its body at a place -/
abbrev Qt : Type := Option Value → Mm → Lm → Prop
abbrev Rm (d : Nat) : Room := { frames := d, cells := 0, slots := 0, locals := 200 * d }
def QcW (D : va_G) (cy : Nat → ClassId) (ad : Nat → Nat) (z : Nat) (Q : Qt) : Array Value → State → Outcome → State → Prop := fun _ st oc t => (∃ (res : Option Value) (v' : Mm) (L' : Lm), oc = .returned (res.map (trv ad)) ∧ Q res v' L' ∧ Wd D cy ad z v' L' t) ∧ va_F (fun q => z ≤ q) st t
def Fq (y : MethodName) (b : ByteArray) (nL : Nat) (r : Option FieldType) (d : Nat) (as : List Value) (v : Mm) (L : Lm) (Q : Qt) : Prop :=
  ∀ (l : Launch) (D : va_G) (cy : Nat → ClassId) (ad : Nat → Nat) (z : Nat), Met l y (Cond.code y b nL r :: lw_g) (Rm d) (va_Pc (as.map (trv ad)) (fun U => Wd D cy ad z v L U)) (QcW D cy ad z Q) 0 0 (fun q => z ≤ q)
def Fn (y : MethodName) (b : ByteArray) (nL : Nat) (r : Option FieldType) (d : Nat) (as : List Value) (v : Mm) (L : Lm) (res : Option Value) (v' : Mm) (L' : Lm) : Prop := Fq y b nL r d as v L (fun a b c => a = res ∧ b = v' ∧ c = L')
def Cx (own : String) (b : ByteArray) (nL : Nat) (r : Option FieldType) (D : va_G) (cy : Nat → ClassId) (ad : Nat → Nat) (z : Nat) (p : Program) (s : State) (m : MethodId) (args : Array Value) (meth : Method) (c : Code) (H : Heap) (locs : List Loc) (lsA : Array Slot) (v : Mm) (L : Lm) (ls : List (Option Value)) : Prop :=
  p.tables.exec = Jvm.exec ∧ c.code = b ∧ meth.sig.returnType = r ∧ c.maxLocals = nL ∧ s.vm.findClass own = some m.cls ∧ (∀ w ∈ lw_g, w.before args s = true) ∧ meth.locks = false ∧ Sx D cy ad z s s.heap ∧ va_P D vwCl (wsW ad cy v L) H ∧ va_S (fun q => z ≤ q) s.heap H locs ∧ LR ad lsA nL ls
def G (own : String) (b : ByteArray) (nL : Nat) (r : Option FieldType) (d : Nat) (Q : Qt) (pc : Nat) (ls : List (Option Value)) (st : List Value) (v : Mm) (L : Lm) : Prop :=
  ∀ (l : Launch) (D : va_G) (cy : Nat → ClassId) (ad : Nat → Nat) (z : Nat) (p : Program) (e : Env) (s : State) (m : MethodId) (args : Array Value) (below : List Frame) (meth : Method) (c : Code) (H : Heap) (locs : List Loc) (lsA : Array Slot),
    Cx own b nL r D cy ad z p s m args meth c H locs lsA v L ls → W p l e (Rm d) s m args below meth c H locs 0 0 (MQ below (QcW D cy ad z Q) args s 0 0 (fun q => z ≤ q)) (F0 m pc lsA (st.map (trv ad)))
theorem Met.ofWF {l : Launch} {y : MethodName} {ws ws' : List Cond} {rm : Room} {Pc : Array Value → State → Prop} {Qc : Array Value → State → Outcome → State → Prop} {mc ms : Nat} {free : Addr → Prop} {cc : ByteArray} {maxL : Nat} {ret : Option FieldType}
    (hy : plainFor y = true) (hw : ws = Cond.code y cc maxL ret :: ws')
    (body : ∀ p e s m args below meth c s₁, BodyLoose p l y (headSpec ws rm) cc maxL ret e s m args below meth c s₁ → c.maxLocals = maxL → Pc args s →
      W p l e (headSpec ws rm).room s m args below meth c s.heap [] 0 0 (MQ below Qc args s mc ms free) (entryFrame m args maxL)) : Met l y ws rm Pc Qc mc ms free := by
  refine MetFree.of_bodySF (code := cc) (maxLocals := maxL) (ret := ret) hy ?_ ?_
  · intro args s m h hn
    obtain ⟨meth, c, h1, h2, h3, h4, h5, h6, -, -⟩ := Cond.code_spec hn (atoms_spec (ws := ws) h _ (by rw [hw]; exact List.mem_cons_self))
    exact ⟨meth, c, h1, h2, h3, h4, h5, h6⟩
  · intro p e s m args below meth c s₁ B hml hP _
    have hh0 : s₁.heap = s.heap := by rw [B.state]; rfl
    obtain ⟨t, a1, o, b1, b2, b3⟩ := body p e s m args below meth c s₁ B hml hP s₁ hh0 (Stand.of_body B)
    exact ⟨t, o, a1, b1, b2, ⟨b3.1, b3.2⟩⟩
/-- a contract out of the body's walk from its entry -/
theorem Fq.of {y : MethodName} {b : ByteArray} {nL : Nat} {r : Option FieldType} {d : Nat} {as : List Value} {v : Mm} {L : Lm} {Q : Qt} (hy : plainFor y = true) (ls : List (Option Value)) (hls : ents as ++ List.replicate (nL - (ents as).length) none = ls) (hn : (ents as).length ≤ nL)
    (h : G y.cls b nL r d Q 0 ls [] v L) : Fq y b nL r d as v L Q := by
  intro l D cy ad z
  refine Met.ofWF (cc := b) (maxL := nL) (ret := r) hy rfl ?_
  intro p e s m args below meth c s₁ B hml hv
  obtain ⟨rfl, hSx, hP⟩ := hv
  have hts := atoms_spec (ws := Cond.code y b nL r :: lw_g) B.pre
  have hl := lv_entry (as.map (trv ad)) (n := nL) (by rw [ents_len]; exact hn)
  rw [lg_entry_eq]
  refine h l D cy ad z p e s m _ below meth c s.heap [] _ ⟨B.exec, B.bytes, B.returns, hml, findClass_of_methodNamed B.named, fun w hw => hts w (List.mem_cons_of_mem _ hw), B.notSynchronized, hSx, hP, va_S.rf, hl.1, hl.2.1, fun i x hx => ?_⟩
  rw [← hls] at hx
  have := ents_at ad as _ 0 i x hx
  rw [Nat.zero_add] at this
  exact hl.2.2 _ this
theorem G.mono {own : String} {b : ByteArray} {nL : Nat} {r : Option FieldType} {d : Nat} {Q Q' : Qt} {pc : Nat} {ls : List (Option Value)} {st : List Value} {v : Mm} {L : Lm} (h : G own b nL r d Q pc ls st v L) (hQ : ∀ a b c, Q a b c → Q' a b c) : G own b nL r d Q' pc ls st v L := by
  intro l D cy ad z p e s m args below meth c H locs lsA hC T hT X
  obtain ⟨t, a1, o, b1, b2, ⟨⟨res, v', L', c1, c2, c3⟩, c4⟩, b4⟩ := h l D cy ad z p e s m args below meth c H locs lsA hC T hT X
  exact ⟨t, a1, o, b1, b2, ⟨⟨res, v', L', c1, hQ _ _ _ c2, c3⟩, c4⟩, b4⟩
/-- locals that are forgotten -/
theorem LR.forget {ad : Nat → Nat} {lsA : Array Slot} {nL : Nat} {ls ls' : List (Option Value)} (h : LR ad lsA nL ls) (hq : ∀ (i : Nat) (x : Value), ls'[i]? = some (some x) → ls[i]? = some (some x)) : LR ad lsA nL ls' := ⟨h.1, h.2.1, fun i x hx => h.2.2 i x (hq i x hx)⟩
end
section
section Rows11
variable {own : String} {b : ByteArray} {nL : Nat} {r : Option FieldType} {d : Nat} {Q : Qt} {pc : Nat} {ls : List (Option Value)} {st : List Value} {v : Mm} {L : Lm}
theorem g_iconst {n : Int} (x : Int32) (hd : decode b pc = .ok (.iconst n, 1)) (hv : Int32.ofInt n = x) (k : G own b nL r d Q (pc + 1) ls (.int x :: st) v L) : G own b nL r d Q pc ls (st) v L := fun l D cy ad z p e s m args below meth c H locs lsA hC => lv_iconst hC.1 hC.2.1 hd hv (k l D cy ad z p e s m args below meth c H locs lsA hC)
theorem g_bipush {n : Int} (x : Int32) (hd : decode b pc = .ok (.bipush n, 2)) (hv : (Int8.ofInt n).toInt32 = x) (k : G own b nL r d Q (pc + 2) ls (.int x :: st) v L) : G own b nL r d Q pc ls (st) v L := fun l D cy ad z p e s m args below meth c H locs lsA hC => lv_bipush hC.1 hC.2.1 hd hv (k l D cy ad z p e s m args below meth c H locs lsA hC)
theorem g_sipush {n : Int} (x : Int32) (hd : decode b pc = .ok (.sipush n, 3)) (hv : (Int16.ofInt n).toInt32 = x) (k : G own b nL r d Q (pc + 3) ls (.int x :: st) v L) : G own b nL r d Q pc ls (st) v L := fun l D cy ad z p e s m args below meth c H locs lsA hC => lv_sipush hC.1 hC.2.1 hd hv (k l D cy ad z p e s m args below meth c H locs lsA hC)
theorem g_lconst {n : Fin 2} (x : Int64) (hd : decode b pc = .ok (.lconst n, 1)) (hv : Int64.ofNat (n : Nat) = x) (k : G own b nL r d Q (pc + 1) ls (.long x :: st) v L) : G own b nL r d Q pc ls (st) v L := fun l D cy ad z p e s m args below meth c H locs lsA hC => lv_lconst hC.1 hC.2.1 hd hv (k l D cy ad z p e s m args below meth c H locs lsA hC)
theorem g_iadd {x y : Int32} (hd : decode b pc = .ok (.iadd, 1)) (k : G own b nL r d Q (pc + 1) ls (.int (x + y) :: st) v L) : G own b nL r d Q pc ls (.int y :: .int x :: st) v L := fun l D cy ad z p e s m args below meth c H locs lsA hC => lv_iadd hC.1 hC.2.1 hd (k l D cy ad z p e s m args below meth c H locs lsA hC)
theorem g_isub {x y : Int32} (hd : decode b pc = .ok (.isub, 1)) (k : G own b nL r d Q (pc + 1) ls (.int (x - y) :: st) v L) : G own b nL r d Q pc ls (.int y :: .int x :: st) v L := fun l D cy ad z p e s m args below meth c H locs lsA hC => lv_isub hC.1 hC.2.1 hd (k l D cy ad z p e s m args below meth c H locs lsA hC)
theorem g_imul {x y : Int32} (hd : decode b pc = .ok (.imul, 1)) (k : G own b nL r d Q (pc + 1) ls (.int (x * y) :: st) v L) : G own b nL r d Q pc ls (.int y :: .int x :: st) v L := fun l D cy ad z p e s m args below meth c H locs lsA hC => lv_imul hC.1 hC.2.1 hd (k l D cy ad z p e s m args below meth c H locs lsA hC)
theorem g_iand {x y : Int32} (hd : decode b pc = .ok (.iand, 1)) (k : G own b nL r d Q (pc + 1) ls (.int (x &&& y) :: st) v L) : G own b nL r d Q pc ls (.int y :: .int x :: st) v L := fun l D cy ad z p e s m args below meth c H locs lsA hC => lv_iand hC.1 hC.2.1 hd (k l D cy ad z p e s m args below meth c H locs lsA hC)
theorem g_ior {x y : Int32} (hd : decode b pc = .ok (.ior, 1)) (k : G own b nL r d Q (pc + 1) ls (.int (x ||| y) :: st) v L) : G own b nL r d Q pc ls (.int y :: .int x :: st) v L := fun l D cy ad z p e s m args below meth c H locs lsA hC => lv_ior hC.1 hC.2.1 hd (k l D cy ad z p e s m args below meth c H locs lsA hC)
theorem g_ixor {x y : Int32} (hd : decode b pc = .ok (.ixor, 1)) (k : G own b nL r d Q (pc + 1) ls (.int (x ^^^ y) :: st) v L) : G own b nL r d Q pc ls (.int y :: .int x :: st) v L := fun l D cy ad z p e s m args below meth c H locs lsA hC => lv_ixor hC.1 hC.2.1 hd (k l D cy ad z p e s m args below meth c H locs lsA hC)
theorem g_ishl {x y : Int32} (hd : decode b pc = .ok (.ishl, 1)) (k : G own b nL r d Q (pc + 1) ls (.int (x <<< (y &&& 31)) :: st) v L) : G own b nL r d Q pc ls (.int y :: .int x :: st) v L := fun l D cy ad z p e s m args below meth c H locs lsA hC => lv_ishl hC.1 hC.2.1 hd (k l D cy ad z p e s m args below meth c H locs lsA hC)
theorem g_ishr {x y : Int32} (hd : decode b pc = .ok (.ishr, 1)) (k : G own b nL r d Q (pc + 1) ls (.int (x >>> (y &&& 31)) :: st) v L) : G own b nL r d Q pc ls (.int y :: .int x :: st) v L := fun l D cy ad z p e s m args below meth c H locs lsA hC => lv_ishr hC.1 hC.2.1 hd (k l D cy ad z p e s m args below meth c H locs lsA hC)
theorem g_ladd {x y : Int64} (hd : decode b pc = .ok (.ladd, 1)) (k : G own b nL r d Q (pc + 1) ls (.long (x + y) :: st) v L) : G own b nL r d Q pc ls (.long y :: .long x :: st) v L := fun l D cy ad z p e s m args below meth c H locs lsA hC => lv_ladd hC.1 hC.2.1 hd (k l D cy ad z p e s m args below meth c H locs lsA hC)
theorem g_lsub {x y : Int64} (hd : decode b pc = .ok (.lsub, 1)) (k : G own b nL r d Q (pc + 1) ls (.long (x - y) :: st) v L) : G own b nL r d Q pc ls (.long y :: .long x :: st) v L := fun l D cy ad z p e s m args below meth c H locs lsA hC => lv_lsub hC.1 hC.2.1 hd (k l D cy ad z p e s m args below meth c H locs lsA hC)
theorem g_lmul {x y : Int64} (hd : decode b pc = .ok (.lmul, 1)) (k : G own b nL r d Q (pc + 1) ls (.long (x * y) :: st) v L) : G own b nL r d Q pc ls (.long y :: .long x :: st) v L := fun l D cy ad z p e s m args below meth c H locs lsA hC => lv_lmul hC.1 hC.2.1 hd (k l D cy ad z p e s m args below meth c H locs lsA hC)
theorem g_land {x y : Int64} (hd : decode b pc = .ok (.land, 1)) (k : G own b nL r d Q (pc + 1) ls (.long (x &&& y) :: st) v L) : G own b nL r d Q pc ls (.long y :: .long x :: st) v L := fun l D cy ad z p e s m args below meth c H locs lsA hC => lv_land hC.1 hC.2.1 hd (k l D cy ad z p e s m args below meth c H locs lsA hC)
theorem g_lor {x y : Int64} (hd : decode b pc = .ok (.lor, 1)) (k : G own b nL r d Q (pc + 1) ls (.long (x ||| y) :: st) v L) : G own b nL r d Q pc ls (.long y :: .long x :: st) v L := fun l D cy ad z p e s m args below meth c H locs lsA hC => lv_lor hC.1 hC.2.1 hd (k l D cy ad z p e s m args below meth c H locs lsA hC)
theorem g_idiv {x y : Int32} (hd : decode b pc = .ok (.idiv, 1)) (hne : ¬ y = 0) (k : G own b nL r d Q (pc + 1) ls (.int (x / y) :: st) v L) : G own b nL r d Q pc ls (.int y :: .int x :: st) v L := fun l D cy ad z p e s m args below meth c H locs lsA hC => lv_idiv hC.1 hC.2.1 hd hne (k l D cy ad z p e s m args below meth c H locs lsA hC)
theorem g_irem {x y : Int32} (hd : decode b pc = .ok (.irem, 1)) (hne : ¬ y = 0) (k : G own b nL r d Q (pc + 1) ls (.int (x - x / y * y) :: st) v L) : G own b nL r d Q pc ls (.int y :: .int x :: st) v L := fun l D cy ad z p e s m args below meth c H locs lsA hC => lv_irem hC.1 hC.2.1 hd hne (k l D cy ad z p e s m args below meth c H locs lsA hC)
theorem g_ldiv {x y : Int64} (hd : decode b pc = .ok (.ldiv, 1)) (hne : ¬ y = 0) (k : G own b nL r d Q (pc + 1) ls (.long (x / y) :: st) v L) : G own b nL r d Q pc ls (.long y :: .long x :: st) v L := fun l D cy ad z p e s m args below meth c H locs lsA hC => lv_ldiv hC.1 hC.2.1 hd hne (k l D cy ad z p e s m args below meth c H locs lsA hC)
theorem g_lrem {x y : Int64} (hd : decode b pc = .ok (.lrem, 1)) (hne : ¬ y = 0) (k : G own b nL r d Q (pc + 1) ls (.long (x - x / y * y) :: st) v L) : G own b nL r d Q pc ls (.long y :: .long x :: st) v L := fun l D cy ad z p e s m args below meth c H locs lsA hC => lv_lrem hC.1 hC.2.1 hd hne (k l D cy ad z p e s m args below meth c H locs lsA hC)
theorem g_ineg {x : Int32} (hd : decode b pc = .ok (.ineg, 1)) (k : G own b nL r d Q (pc + 1) ls (.int (-x) :: st) v L) : G own b nL r d Q pc ls (.int x :: st) v L := fun l D cy ad z p e s m args below meth c H locs lsA hC => lv_ineg hC.1 hC.2.1 hd (k l D cy ad z p e s m args below meth c H locs lsA hC)
theorem g_i2l {x : Int32} (hd : decode b pc = .ok (.i2l, 1))  (k : G own b nL r d Q (pc + 1) ls (.long x.toInt64 :: st) v L) : G own b nL r d Q pc ls (.int x :: st) v L := fun l D cy ad z p e s m args below meth c H locs lsA hC => lv_i2l hC.1 hC.2.1 hd rfl (k l D cy ad z p e s m args below meth c H locs lsA hC)
theorem g_l2i {x : Int64} (hd : decode b pc = .ok (.l2i, 1))  (k : G own b nL r d Q (pc + 1) ls (.int x.toInt32 :: st) v L) : G own b nL r d Q pc ls (.long x :: st) v L := fun l D cy ad z p e s m args below meth c H locs lsA hC => lv_l2i hC.1 hC.2.1 hd rfl (k l D cy ad z p e s m args below meth c H locs lsA hC)
theorem g_iushr {x y : Int32} (hd : decode b pc = .ok (.iushr, 1))  (k : G own b nL r d Q (pc + 1) ls (.int (x.toUInt32 >>> (y.toUInt32 &&& Int32.toUInt32 31)).toInt32 :: st) v L) : G own b nL r d Q pc ls (.int y :: .int x :: st) v L := fun l D cy ad z p e s m args below meth c H locs lsA hC => lv_iushr hC.1 hC.2.1 hd rfl (k l D cy ad z p e s m args below meth c H locs lsA hC)
theorem g_lushr {x : Int64} {y : Int32} (hd : decode b pc = .ok (.lushr, 1))  (k : G own b nL r d Q (pc + 1) ls (.long (x.toUInt64 >>> (y.toInt64.toUInt64 &&& Int64.toUInt64 63)).toInt64 :: st) v L) : G own b nL r d Q pc ls (.int y :: .long x :: st) v L := fun l D cy ad z p e s m args below meth c H locs lsA hC => lv_lushr hC.1 hC.2.1 hd rfl (k l D cy ad z p e s m args below meth c H locs lsA hC)
theorem g_lshl {x : Int64} {y : Int32} (hd : decode b pc = .ok (.lshl, 1))  (k : G own b nL r d Q (pc + 1) ls (.long (x <<< (y.toInt64 &&& 63)) :: st) v L) : G own b nL r d Q pc ls (.int y :: .long x :: st) v L := fun l D cy ad z p e s m args below meth c H locs lsA hC => lv_lshl hC.1 hC.2.1 hd rfl (k l D cy ad z p e s m args below meth c H locs lsA hC)
theorem g_lcmp {x y : Int64} (hd : decode b pc = .ok (.lcmp, 1)) (k : G own b nL r d Q (pc + 1) ls (.int (lg_cmp x y) :: st) v L) : G own b nL r d Q pc ls (.long y :: .long x :: st) v L := fun l D cy ad z p e s m args below meth c H locs lsA hC => W.lcmp hC.1 hC.2.1 hd (k l D cy ad z p e s m args below meth c H locs lsA hC)
theorem g_dup {x : Value} (hd : decode b pc = .ok (.dup, 1)) (hc : x.category = 1) (k : G own b nL r d Q (pc + 1) ls (x :: x :: st) v L) : G own b nL r d Q pc ls (x :: st) v L := fun l D cy ad z p e s m args below meth c H locs lsA hC => lv_dup hC.1 hC.2.1 hd (by rw [trv_cat]; exact hc) (k l D cy ad z p e s m args below meth c H locs lsA hC)
theorem g_pop {x : Value} (hd : decode b pc = .ok (.pop, 1)) (hc : x.category = 1) (k : G own b nL r d Q (pc + 1) ls (st) v L) : G own b nL r d Q pc ls (x :: st) v L := fun l D cy ad z p e s m args below meth c H locs lsA hC => lv_pop hC.1 hC.2.1 hd (by rw [trv_cat]; exact hc) (k l D cy ad z p e s m args below meth c H locs lsA hC)
theorem g_dup2 {x y : Value} (hd : decode b pc = .ok (.dup2, 1)) (hc : x.category = 1) (hc2 : y.category = 1) (k : G own b nL r d Q (pc + 1) ls (x :: y :: x :: y :: st) v L) : G own b nL r d Q pc ls (x :: y :: st) v L := fun l D cy ad z p e s m args below meth c H locs lsA hC => lv_dup2_11 hC.1 hC.2.1 hd (by rw [trv_cat]; exact hc) (by rw [trv_cat]; exact hc2) (k l D cy ad z p e s m args below meth c H locs lsA hC)
theorem g_null  (hd : decode b pc = .ok (.aconst_null, 1)) (k : G own b nL r d Q (pc + 1) ls (.null :: st) v L) : G own b nL r d Q pc ls (st) v L := fun l D cy ad z p e s m args below meth c H locs lsA hC => lv_null hC.1 hC.2.1 hd (k l D cy ad z p e s m args below meth c H locs lsA hC)
theorem g_if_eq {x : Int32} {off : Int} (tgt : Nat) (hd : decode b pc = .ok (.ifCond .eq off, 3)) (ht : (pc : Int) + off = (tgt : Int)) (kt : x = 0 → G own b nL r d Q tgt ls st v L) (kf : ¬ x = 0 → G own b nL r d Q (pc + 3) ls st v L) : G own b nL r d Q pc ls (.int x :: st) v L := fun l D cy ad z p e s m args below meth c H locs lsA hC => lv_if_eq hC.1 hC.2.1 hd ht (fun q => kt q l D cy ad z p e s m args below meth c H locs lsA hC) (fun q => kf q l D cy ad z p e s m args below meth c H locs lsA hC)
theorem g_icmp_eq {x y : Int32} {off : Int} (tgt : Nat) (hd : decode b pc = .ok (.if_icmp .eq off, 3)) (ht : (pc : Int) + off = (tgt : Int)) (kt : x = y → G own b nL r d Q tgt ls st v L) (kf : ¬ x = y → G own b nL r d Q (pc + 3) ls st v L) : G own b nL r d Q pc ls (.int y :: .int x :: st) v L := fun l D cy ad z p e s m args below meth c H locs lsA hC => lv_icmp_eq hC.1 hC.2.1 hd ht (fun q => kt q l D cy ad z p e s m args below meth c H locs lsA hC) (fun q => kf q l D cy ad z p e s m args below meth c H locs lsA hC)
theorem g_if_ne {x : Int32} {off : Int} (tgt : Nat) (hd : decode b pc = .ok (.ifCond .ne off, 3)) (ht : (pc : Int) + off = (tgt : Int)) (kt : ¬ x = 0 → G own b nL r d Q tgt ls st v L) (kf : x = 0 → G own b nL r d Q (pc + 3) ls st v L) : G own b nL r d Q pc ls (.int x :: st) v L := fun l D cy ad z p e s m args below meth c H locs lsA hC => lv_if_ne hC.1 hC.2.1 hd ht (fun q => kt q l D cy ad z p e s m args below meth c H locs lsA hC) (fun q => kf q l D cy ad z p e s m args below meth c H locs lsA hC)
theorem g_icmp_ne {x y : Int32} {off : Int} (tgt : Nat) (hd : decode b pc = .ok (.if_icmp .ne off, 3)) (ht : (pc : Int) + off = (tgt : Int)) (kt : ¬ x = y → G own b nL r d Q tgt ls st v L) (kf : x = y → G own b nL r d Q (pc + 3) ls st v L) : G own b nL r d Q pc ls (.int y :: .int x :: st) v L := fun l D cy ad z p e s m args below meth c H locs lsA hC => lv_icmp_ne hC.1 hC.2.1 hd ht (fun q => kt q l D cy ad z p e s m args below meth c H locs lsA hC) (fun q => kf q l D cy ad z p e s m args below meth c H locs lsA hC)
theorem g_if_lt {x : Int32} {off : Int} (tgt : Nat) (hd : decode b pc = .ok (.ifCond .lt off, 3)) (ht : (pc : Int) + off = (tgt : Int)) (kt : x < 0 → G own b nL r d Q tgt ls st v L) (kf : ¬ x < 0 → G own b nL r d Q (pc + 3) ls st v L) : G own b nL r d Q pc ls (.int x :: st) v L := fun l D cy ad z p e s m args below meth c H locs lsA hC => lv_if_lt hC.1 hC.2.1 hd ht (fun q => kt q l D cy ad z p e s m args below meth c H locs lsA hC) (fun q => kf q l D cy ad z p e s m args below meth c H locs lsA hC)
theorem g_icmp_lt {x y : Int32} {off : Int} (tgt : Nat) (hd : decode b pc = .ok (.if_icmp .lt off, 3)) (ht : (pc : Int) + off = (tgt : Int)) (kt : x < y → G own b nL r d Q tgt ls st v L) (kf : ¬ x < y → G own b nL r d Q (pc + 3) ls st v L) : G own b nL r d Q pc ls (.int y :: .int x :: st) v L := fun l D cy ad z p e s m args below meth c H locs lsA hC => lv_icmp_lt hC.1 hC.2.1 hd ht (fun q => kt q l D cy ad z p e s m args below meth c H locs lsA hC) (fun q => kf q l D cy ad z p e s m args below meth c H locs lsA hC)
theorem g_if_ge {x : Int32} {off : Int} (tgt : Nat) (hd : decode b pc = .ok (.ifCond .ge off, 3)) (ht : (pc : Int) + off = (tgt : Int)) (kt : 0 ≤ x → G own b nL r d Q tgt ls st v L) (kf : ¬ 0 ≤ x → G own b nL r d Q (pc + 3) ls st v L) : G own b nL r d Q pc ls (.int x :: st) v L := fun l D cy ad z p e s m args below meth c H locs lsA hC => lv_if_ge hC.1 hC.2.1 hd ht (fun q => kt q l D cy ad z p e s m args below meth c H locs lsA hC) (fun q => kf q l D cy ad z p e s m args below meth c H locs lsA hC)
theorem g_icmp_ge {x y : Int32} {off : Int} (tgt : Nat) (hd : decode b pc = .ok (.if_icmp .ge off, 3)) (ht : (pc : Int) + off = (tgt : Int)) (kt : y ≤ x → G own b nL r d Q tgt ls st v L) (kf : ¬ y ≤ x → G own b nL r d Q (pc + 3) ls st v L) : G own b nL r d Q pc ls (.int y :: .int x :: st) v L := fun l D cy ad z p e s m args below meth c H locs lsA hC => lv_icmp_ge hC.1 hC.2.1 hd ht (fun q => kt q l D cy ad z p e s m args below meth c H locs lsA hC) (fun q => kf q l D cy ad z p e s m args below meth c H locs lsA hC)
theorem g_if_gt {x : Int32} {off : Int} (tgt : Nat) (hd : decode b pc = .ok (.ifCond .gt off, 3)) (ht : (pc : Int) + off = (tgt : Int)) (kt : 0 < x → G own b nL r d Q tgt ls st v L) (kf : ¬ 0 < x → G own b nL r d Q (pc + 3) ls st v L) : G own b nL r d Q pc ls (.int x :: st) v L := fun l D cy ad z p e s m args below meth c H locs lsA hC => lv_if_gt hC.1 hC.2.1 hd ht (fun q => kt q l D cy ad z p e s m args below meth c H locs lsA hC) (fun q => kf q l D cy ad z p e s m args below meth c H locs lsA hC)
theorem g_icmp_gt {x y : Int32} {off : Int} (tgt : Nat) (hd : decode b pc = .ok (.if_icmp .gt off, 3)) (ht : (pc : Int) + off = (tgt : Int)) (kt : y < x → G own b nL r d Q tgt ls st v L) (kf : ¬ y < x → G own b nL r d Q (pc + 3) ls st v L) : G own b nL r d Q pc ls (.int y :: .int x :: st) v L := fun l D cy ad z p e s m args below meth c H locs lsA hC => lv_icmp_gt hC.1 hC.2.1 hd ht (fun q => kt q l D cy ad z p e s m args below meth c H locs lsA hC) (fun q => kf q l D cy ad z p e s m args below meth c H locs lsA hC)
theorem g_if_le {x : Int32} {off : Int} (tgt : Nat) (hd : decode b pc = .ok (.ifCond .le off, 3)) (ht : (pc : Int) + off = (tgt : Int)) (kt : x ≤ 0 → G own b nL r d Q tgt ls st v L) (kf : ¬ x ≤ 0 → G own b nL r d Q (pc + 3) ls st v L) : G own b nL r d Q pc ls (.int x :: st) v L := fun l D cy ad z p e s m args below meth c H locs lsA hC => lv_if_le hC.1 hC.2.1 hd ht (fun q => kt q l D cy ad z p e s m args below meth c H locs lsA hC) (fun q => kf q l D cy ad z p e s m args below meth c H locs lsA hC)
theorem g_icmp_le {x y : Int32} {off : Int} (tgt : Nat) (hd : decode b pc = .ok (.if_icmp .le off, 3)) (ht : (pc : Int) + off = (tgt : Int)) (kt : x ≤ y → G own b nL r d Q tgt ls st v L) (kf : ¬ x ≤ y → G own b nL r d Q (pc + 3) ls st v L) : G own b nL r d Q pc ls (.int y :: .int x :: st) v L := fun l D cy ad z p e s m args below meth c H locs lsA hC => lv_icmp_le hC.1 hC.2.1 hd ht (fun q => kt q l D cy ad z p e s m args below meth c H locs lsA hC) (fun q => kf q l D cy ad z p e s m args below meth c H locs lsA hC)
theorem g_goto {off : Int} (tgt : Nat) (hd : decode b pc = .ok (.goto off, 3)) (ht : (pc : Int) + off = (tgt : Int)) (k : G own b nL r d Q tgt ls st v L) : G own b nL r d Q pc ls st v L := fun l D cy ad z p e s m args below meth c H locs lsA hC => lv_goto hC.1 hC.2.1 hd ht (k l D cy ad z p e s m args below meth c H locs lsA hC)
theorem g_ifnonnull {x : Nat} {off : Int} (tgt : Nat) (hd : decode b pc = .ok (.ifnonnull off, 3)) (ht : (pc : Int) + off = (tgt : Int)) (k : G own b nL r d Q tgt ls st v L) : G own b nL r d Q pc ls (.ref x :: st) v L := fun l D cy ad z p e s m args below meth c H locs lsA hC => lv_ifnonnull hC.1 hC.2.1 hd ht (k l D cy ad z p e s m args below meth c H locs lsA hC)
theorem g_ifnonnullN {off : Int} (hd : decode b pc = .ok (.ifnonnull off, 3)) (k : G own b nL r d Q (pc + 3) ls st v L) : G own b nL r d Q pc ls (.null :: st) v L := fun l D cy ad z p e s m args below meth c H locs lsA hC => lv_ifnonnullN hC.1 hC.2.1 hd (k l D cy ad z p e s m args below meth c H locs lsA hC)
theorem g_ifnull {x : Nat} {off : Int} (hd : decode b pc = .ok (.ifnull off, 3)) (k : G own b nL r d Q (pc + 3) ls st v L) : G own b nL r d Q pc ls (.ref x :: st) v L := fun l D cy ad z p e s m args below meth c H locs lsA hC => lv_ifnull hC.1 hC.2.1 hd (k l D cy ad z p e s m args below meth c H locs lsA hC)
theorem g_ifnullN {off : Int} (tgt : Nat) (hd : decode b pc = .ok (.ifnull off, 3)) (ht : (pc : Int) + off = (tgt : Int)) (k : G own b nL r d Q tgt ls st v L) : G own b nL r d Q pc ls (.null :: st) v L := fun l D cy ad z p e s m args below meth c H locs lsA hC => lv_ifnullN hC.1 hC.2.1 hd ht (k l D cy ad z p e s m args below meth c H locs lsA hC)
theorem g_tableIn {dflt lo hi : Int} {offs : Array Int} {len : Nat} {x : Int32} {off : Int} (tgt : Nat) (hd : decode b pc = .ok (.tableswitch dflt lo hi offs, len)) (h1 : ¬ x.toInt < lo) (h2 : ¬ hi < x.toInt) (ho : offs[(x.toInt - lo).toNat]? = some off) (ht : (pc : Int) + off = (tgt : Int)) (k : G own b nL r d Q tgt ls st v L) : G own b nL r d Q pc ls (.int x :: st) v L := fun l D cy ad z p e s m args below meth c H locs lsA hC => lv_tableIn hC.1 hC.2.1 hd h1 h2 ho ht (k l D cy ad z p e s m args below meth c H locs lsA hC)
theorem g_tableOut {dflt lo hi : Int} {offs : Array Int} {len : Nat} {x : Int32} (tgt : Nat) (hd : decode b pc = .ok (.tableswitch dflt lo hi offs, len)) (h : x.toInt < lo ∨ hi < x.toInt) (ht : (pc : Int) + dflt = (tgt : Int)) (k : G own b nL r d Q tgt ls st v L) : G own b nL r d Q pc ls (.int x :: st) v L := fun l D cy ad z p e s m args below meth c H locs lsA hC => lv_tableOut hC.1 hC.2.1 hd h ht (k l D cy ad z p e s m args below meth c H locs lsA hC)
theorem g_lookup {dflt : Int} {ps : Array (Int × Int)} {len : Nat} {x : Int32} {off : Int} (tgt : Nat) (hd : decode b pc = .ok (.lookupswitch dflt ps, len)) (hp : (ps.toList.zip (ps.toList.drop 1)).all (fun (a, next) => a.1 < next.1) = true) (ho : Op.lookupswitch.offset ps.toList dflt x.toInt = off) (ht : (pc : Int) + off = (tgt : Int)) (k : G own b nL r d Q tgt ls st v L) : G own b nL r d Q pc ls (.int x :: st) v L := fun l D cy ad z p e s m args below meth c H locs lsA hC => lv_lookup hC.1 hC.2.1 hd hp ho ht (k l D cy ad z p e s m args below meth c H locs lsA hC)
theorem g_ldc {idx : Nat} (x : Int32) (hd : decode b pc = .ok (.ldc idx, 2)) (hw : Cond.constant own idx x ∈ lw_g) (k : G own b nL r d Q (pc + 2) ls (.int x :: st) v L) : G own b nL r d Q pc ls st v L := fun l D cy ad z p e s m args below meth c H locs lsA hC => lv_ldc hC.1 hC.2.1 hC.2.2.2.2.1 (hC.2.2.2.2.2.1 _ hw) hd (k l D cy ad z p e s m args below meth c H locs lsA hC)
theorem g_ldcw {idx : Nat} (x : Int32) (hd : decode b pc = .ok (.ldc_w idx, 3)) (hw : Cond.constant own idx x ∈ lw_g) (k : G own b nL r d Q (pc + 3) ls (.int x :: st) v L) : G own b nL r d Q pc ls st v L := fun l D cy ad z p e s m args below meth c H locs lsA hC => lv_ldcw hC.1 hC.2.1 hC.2.2.2.2.1 (hC.2.2.2.2.2.1 _ hw) hd (k l D cy ad z p e s m args below meth c H locs lsA hC)
theorem g_ldc2 {idx : Nat} (x : Int64) (hd : decode b pc = .ok (.ldc2_w idx, 3)) (hw : Cond.constantLong own idx x ∈ lw_g) (k : G own b nL r d Q (pc + 3) ls (.long x :: st) v L) : G own b nL r d Q pc ls st v L := fun l D cy ad z p e s m args below meth c H locs lsA hC => lv_ldc2 hC.1 hC.2.1 hC.2.2.2.2.1 (hC.2.2.2.2.2.1 _ hw) hd (k l D cy ad z p e s m args below meth c H locs lsA hC)
theorem g_iload_n {x : Int32} {k : Fin 4} {i : Nat} (hd : decode b pc = .ok (.iload_n k, 1)) (hi : (k : Nat) = i) (hl : ls[i]? = some (some (.int x))) (kk : G own b nL r d Q (pc + 1) ls (.int x :: st) v L) : G own b nL r d Q pc ls st v L := fun l D cy ad z p e s m args below meth c H locs lsA hC => lv_iload_n hC.1 hC.2.1 hd hi (hC.2.2.2.2.2.2.2.2.2.2.2.2 _ _ hl) (kk l D cy ad z p e s m args below meth c H locs lsA hC)
theorem g_iload_w {x : Int32} {i : Nat} (hd : decode b pc = .ok (.iload i, 2)) (hl : ls[i]? = some (some (.int x))) (kk : G own b nL r d Q (pc + 2) ls (.int x :: st) v L) : G own b nL r d Q pc ls st v L := fun l D cy ad z p e s m args below meth c H locs lsA hC => lv_iload hC.1 hC.2.1 hd (hC.2.2.2.2.2.2.2.2.2.2.2.2 _ _ hl) (kk l D cy ad z p e s m args below meth c H locs lsA hC)
theorem g_lload_n {x : Int64} {k : Fin 4} {i : Nat} (hd : decode b pc = .ok (.lload_n k, 1)) (hi : (k : Nat) = i) (hl : ls[i]? = some (some (.long x))) (kk : G own b nL r d Q (pc + 1) ls (.long x :: st) v L) : G own b nL r d Q pc ls st v L := fun l D cy ad z p e s m args below meth c H locs lsA hC => lv_lload_n hC.1 hC.2.1 hd hi (hC.2.2.2.2.2.2.2.2.2.2.2.2 _ _ hl) (kk l D cy ad z p e s m args below meth c H locs lsA hC)
theorem g_lload_w {x : Int64} {i : Nat} (hd : decode b pc = .ok (.lload i, 2)) (hl : ls[i]? = some (some (.long x))) (kk : G own b nL r d Q (pc + 2) ls (.long x :: st) v L) : G own b nL r d Q pc ls st v L := fun l D cy ad z p e s m args below meth c H locs lsA hC => lv_lload hC.1 hC.2.1 hd (hC.2.2.2.2.2.2.2.2.2.2.2.2 _ _ hl) (kk l D cy ad z p e s m args below meth c H locs lsA hC)
theorem g_aload_n {x : Nat} {k : Fin 4} {i : Nat} (hd : decode b pc = .ok (.aload_n k, 1)) (hi : (k : Nat) = i) (hl : ls[i]? = some (some (.ref x))) (kk : G own b nL r d Q (pc + 1) ls (.ref x :: st) v L) : G own b nL r d Q pc ls st v L := fun l D cy ad z p e s m args below meth c H locs lsA hC => lv_aload_n hC.1 hC.2.1 hd hi (hC.2.2.2.2.2.2.2.2.2.2.2.2 _ _ hl) (kk l D cy ad z p e s m args below meth c H locs lsA hC)
theorem g_aload_w {x : Nat} {i : Nat} (hd : decode b pc = .ok (.aload i, 2)) (hl : ls[i]? = some (some (.ref x))) (kk : G own b nL r d Q (pc + 2) ls (.ref x :: st) v L) : G own b nL r d Q pc ls st v L := fun l D cy ad z p e s m args below meth c H locs lsA hC => lv_aload hC.1 hC.2.1 hd (hC.2.2.2.2.2.2.2.2.2.2.2.2 _ _ hl) (kk l D cy ad z p e s m args below meth c H locs lsA hC)
theorem g_aloadN_n  {k : Fin 4} {i : Nat} (hd : decode b pc = .ok (.aload_n k, 1)) (hi : (k : Nat) = i) (hl : ls[i]? = some (some (.null))) (kk : G own b nL r d Q (pc + 1) ls (.null :: st) v L) : G own b nL r d Q pc ls st v L := fun l D cy ad z p e s m args below meth c H locs lsA hC => lv_aload_nN hC.1 hC.2.1 hd hi (hC.2.2.2.2.2.2.2.2.2.2.2.2 _ _ hl) (kk l D cy ad z p e s m args below meth c H locs lsA hC)
theorem g_aloadN_w  {i : Nat} (hd : decode b pc = .ok (.aload i, 2)) (hl : ls[i]? = some (some (.null))) (kk : G own b nL r d Q (pc + 2) ls (.null :: st) v L) : G own b nL r d Q pc ls st v L := fun l D cy ad z p e s m args below meth c H locs lsA hC => lv_aloadN hC.1 hC.2.1 hd (hC.2.2.2.2.2.2.2.2.2.2.2.2 _ _ hl) (kk l D cy ad z p e s m args below meth c H locs lsA hC)
theorem g_istore_n {x : Int32} {k : Fin 4} {i : Nat} (hd : decode b pc = .ok (.istore_n k, 1)) (hi : (k : Nat) = i) (hn : i < nL) (hp : ∀ j, j + 1 = i → ∀ a, ls[j]? = some a → okp a = true) (kk : G own b nL r d Q (pc + 1) (ls.set i (some (.int x))) st v L) : G own b nL r d Q pc ls (.int x :: st) v L := fun l D cy ad z p e s m args below meth c H locs lsA hC => lv_istore_n hC.1 hC.2.1 hd hi hC.2.2.2.2.2.2.2.2.2.2.has hn rfl (fun lsB hB => kk l D cy ad z p e s m args below meth c H locs lsB ⟨hC.1, hC.2.1, hC.2.2.1, hC.2.2.2.1, hC.2.2.2.2.1, hC.2.2.2.2.2.1, hC.2.2.2.2.2.2.1, hC.2.2.2.2.2.2.2.1, hC.2.2.2.2.2.2.2.2.1, hC.2.2.2.2.2.2.2.2.2.1, LR.set (w := .int x) hp hB⟩)
theorem g_istore_w {x : Int32} {i : Nat} (hd : decode b pc = .ok (.istore i, 2)) (hn : i < nL) (hp : ∀ j, j + 1 = i → ∀ a, ls[j]? = some a → okp a = true) (kk : G own b nL r d Q (pc + 2) (ls.set i (some (.int x))) st v L) : G own b nL r d Q pc ls (.int x :: st) v L := fun l D cy ad z p e s m args below meth c H locs lsA hC => lv_istore hC.1 hC.2.1 hd hC.2.2.2.2.2.2.2.2.2.2.has hn rfl (fun lsB hB => kk l D cy ad z p e s m args below meth c H locs lsB ⟨hC.1, hC.2.1, hC.2.2.1, hC.2.2.2.1, hC.2.2.2.2.1, hC.2.2.2.2.2.1, hC.2.2.2.2.2.2.1, hC.2.2.2.2.2.2.2.1, hC.2.2.2.2.2.2.2.2.1, hC.2.2.2.2.2.2.2.2.2.1, LR.set (w := .int x) hp hB⟩)
theorem g_astore_n {x : Nat} {k : Fin 4} {i : Nat} (hd : decode b pc = .ok (.astore_n k, 1)) (hi : (k : Nat) = i) (hn : i < nL) (hp : ∀ j, j + 1 = i → ∀ a, ls[j]? = some a → okp a = true) (kk : G own b nL r d Q (pc + 1) (ls.set i (some (.ref x))) st v L) : G own b nL r d Q pc ls (.ref x :: st) v L := fun l D cy ad z p e s m args below meth c H locs lsA hC => lv_astore_n hC.1 hC.2.1 hd hi hC.2.2.2.2.2.2.2.2.2.2.has hn rfl (fun lsB hB => kk l D cy ad z p e s m args below meth c H locs lsB ⟨hC.1, hC.2.1, hC.2.2.1, hC.2.2.2.1, hC.2.2.2.2.1, hC.2.2.2.2.2.1, hC.2.2.2.2.2.2.1, hC.2.2.2.2.2.2.2.1, hC.2.2.2.2.2.2.2.2.1, hC.2.2.2.2.2.2.2.2.2.1, LR.set (w := .ref x) hp hB⟩)
theorem g_astore_w {x : Nat} {i : Nat} (hd : decode b pc = .ok (.astore i, 2)) (hn : i < nL) (hp : ∀ j, j + 1 = i → ∀ a, ls[j]? = some a → okp a = true) (kk : G own b nL r d Q (pc + 2) (ls.set i (some (.ref x))) st v L) : G own b nL r d Q pc ls (.ref x :: st) v L := fun l D cy ad z p e s m args below meth c H locs lsA hC => lv_astore hC.1 hC.2.1 hd hC.2.2.2.2.2.2.2.2.2.2.has hn rfl (fun lsB hB => kk l D cy ad z p e s m args below meth c H locs lsB ⟨hC.1, hC.2.1, hC.2.2.1, hC.2.2.2.1, hC.2.2.2.2.1, hC.2.2.2.2.2.1, hC.2.2.2.2.2.2.1, hC.2.2.2.2.2.2.2.1, hC.2.2.2.2.2.2.2.2.1, hC.2.2.2.2.2.2.2.2.2.1, LR.set (w := .ref x) hp hB⟩)
theorem g_astoreN_n  {k : Fin 4} {i : Nat} (hd : decode b pc = .ok (.astore_n k, 1)) (hi : (k : Nat) = i) (hn : i < nL) (hp : ∀ j, j + 1 = i → ∀ a, ls[j]? = some a → okp a = true) (kk : G own b nL r d Q (pc + 1) (ls.set i (some (.null))) st v L) : G own b nL r d Q pc ls (.null :: st) v L := fun l D cy ad z p e s m args below meth c H locs lsA hC => lv_astore_nN hC.1 hC.2.1 hd hi hC.2.2.2.2.2.2.2.2.2.2.has hn rfl (fun lsB hB => kk l D cy ad z p e s m args below meth c H locs lsB ⟨hC.1, hC.2.1, hC.2.2.1, hC.2.2.2.1, hC.2.2.2.2.1, hC.2.2.2.2.2.1, hC.2.2.2.2.2.2.1, hC.2.2.2.2.2.2.2.1, hC.2.2.2.2.2.2.2.2.1, hC.2.2.2.2.2.2.2.2.2.1, LR.set (w := .null) hp hB⟩)
theorem g_astoreN_w  {i : Nat} (hd : decode b pc = .ok (.astore i, 2)) (hn : i < nL) (hp : ∀ j, j + 1 = i → ∀ a, ls[j]? = some a → okp a = true) (kk : G own b nL r d Q (pc + 2) (ls.set i (some (.null))) st v L) : G own b nL r d Q pc ls (.null :: st) v L := fun l D cy ad z p e s m args below meth c H locs lsA hC => lv_astoreN hC.1 hC.2.1 hd hC.2.2.2.2.2.2.2.2.2.2.has hn rfl (fun lsB hB => kk l D cy ad z p e s m args below meth c H locs lsB ⟨hC.1, hC.2.1, hC.2.2.1, hC.2.2.2.1, hC.2.2.2.2.1, hC.2.2.2.2.2.1, hC.2.2.2.2.2.2.1, hC.2.2.2.2.2.2.2.1, hC.2.2.2.2.2.2.2.2.1, hC.2.2.2.2.2.2.2.2.2.1, LR.set (w := .null) hp hB⟩)
theorem g_lstore_n {x : Int64} {k : Fin 4} {i : Nat} (hd : decode b pc = .ok (.lstore_n k, 1)) (hi : (k : Nat) = i) (hn : i + 1 < nL) (hp : ∀ j, j + 1 = i → ∀ a, ls[j]? = some a → okp a = true) (kk : G own b nL r d Q (pc + 1) ((ls.set i (some (.long x))).set (i + 1) none) st v L) : G own b nL r d Q pc ls (.long x :: st) v L := fun l D cy ad z p e s m args below meth c H locs lsA hC => lv_lstore_n hC.1 hC.2.1 hd hi hC.2.2.2.2.2.2.2.2.2.2.has hn rfl (fun lsB hB => kk l D cy ad z p e s m args below meth c H locs lsB ⟨hC.1, hC.2.1, hC.2.2.1, hC.2.2.2.1, hC.2.2.2.2.1, hC.2.2.2.2.2.1, hC.2.2.2.2.2.2.1, hC.2.2.2.2.2.2.2.1, hC.2.2.2.2.2.2.2.2.1, hC.2.2.2.2.2.2.2.2.2.1, LR.set2 (w := .long x) hp hB⟩)
theorem g_lstore_w {x : Int64} {i : Nat} (hd : decode b pc = .ok (.lstore i, 2)) (hn : i + 1 < nL) (hp : ∀ j, j + 1 = i → ∀ a, ls[j]? = some a → okp a = true) (kk : G own b nL r d Q (pc + 2) ((ls.set i (some (.long x))).set (i + 1) none) st v L) : G own b nL r d Q pc ls (.long x :: st) v L := fun l D cy ad z p e s m args below meth c H locs lsA hC => lv_lstore hC.1 hC.2.1 hd hC.2.2.2.2.2.2.2.2.2.2.has hn rfl (fun lsB hB => kk l D cy ad z p e s m args below meth c H locs lsB ⟨hC.1, hC.2.1, hC.2.2.1, hC.2.2.2.1, hC.2.2.2.2.1, hC.2.2.2.2.2.1, hC.2.2.2.2.2.2.1, hC.2.2.2.2.2.2.2.1, hC.2.2.2.2.2.2.2.2.1, hC.2.2.2.2.2.2.2.2.2.1, LR.set2 (w := .long x) hp hB⟩)
theorem g_iinc_w {x : Int32} {i : Nat} {n : Int} (y : Int32) (hd : decode b pc = .ok (.iinc i n, 3)) (hl : ls[i]? = some (some (.int x))) (hy : x + Int32.ofInt n = y) (hn : i < nL) (hp : ∀ j, j + 1 = i → ∀ a, ls[j]? = some a → okp a = true) (kk : G own b nL r d Q (pc + 3) (ls.set i (some (.int y))) st v L) : G own b nL r d Q pc ls st v L := by
  intro l D cy ad z p e s m args below meth c H locs lsA hC
  obtain ⟨j, hj⟩ := List.getElem?_of_mem ((lvs_mem (ad := ad) (q := (i, .int x))).mpr ⟨_, hl, rfl⟩)
  exact lv_iinc hC.1 hC.2.1 hd hC.2.2.2.2.2.2.2.2.2.2.has hj hy hn rfl (fun lsB hB => kk l D cy ad z p e s m args below meth c H locs lsB ⟨hC.1, hC.2.1, hC.2.2.1, hC.2.2.2.1, hC.2.2.2.2.1, hC.2.2.2.2.2.1, hC.2.2.2.2.2.2.1, hC.2.2.2.2.2.2.2.1, hC.2.2.2.2.2.2.2.2.1, hC.2.2.2.2.2.2.2.2.2.1, LR.set (w := .int y) hp hB⟩)
theorem g_forget {ls' : List (Option Value)} (hq : ∀ (i : Nat) (x : Value), ls'[i]? = some (some x) → ls[i]? = some (some x)) (k : G own b nL r d Q pc ls' st v L) : G own b nL r d Q pc ls st v L := fun l D cy ad z p e s m args below meth c H locs lsA hC => k l D cy ad z p e s m args below meth c H locs lsA ⟨hC.1, hC.2.1, hC.2.2.1, hC.2.2.2.1, hC.2.2.2.2.1, hC.2.2.2.2.2.1, hC.2.2.2.2.2.2.1, hC.2.2.2.2.2.2.2.1, hC.2.2.2.2.2.2.2.2.1, hC.2.2.2.2.2.2.2.2.2.1, hC.2.2.2.2.2.2.2.2.2.2.forget hq⟩
theorem okp0 {ls : List (Option Value)} : ∀ j, j + 1 = 0 → ∀ a, ls[j]? = some a → okp a = true := fun j h => absurd h (Nat.succ_ne_zero j)
theorem okpS {ls : List (Option Value)} {i : Nat} {a0 : Option Value} (h : ls[i]? = some a0) (ho : okp a0 = true) : ∀ j, j + 1 = i + 1 → ∀ a, ls[j]? = some a → okp a = true := fun j hj a ha => by cases hj; rw [h] at ha; cases ha; exact ho
theorem g_iload0 {x : Int32} {t : List (Option Value)} (hd : decode b pc = .ok (.iload_n 0, 1)) (kk : G own b nL r d Q (pc + 1) (some (.int x) :: t) (.int x :: st) v L) : G own b nL r d Q pc (some (.int x) :: t) st v L := g_iload_n (i := 0) hd rfl rfl kk
theorem g_lload0 {x : Int64} {t : List (Option Value)} (hd : decode b pc = .ok (.lload_n 0, 1)) (kk : G own b nL r d Q (pc + 1) (some (.long x) :: t) (.long x :: st) v L) : G own b nL r d Q pc (some (.long x) :: t) st v L := g_lload_n (i := 0) hd rfl rfl kk
theorem g_aload0 {x : Nat} {t : List (Option Value)} (hd : decode b pc = .ok (.aload_n 0, 1)) (kk : G own b nL r d Q (pc + 1) (some (.ref x) :: t) (.ref x :: st) v L) : G own b nL r d Q pc (some (.ref x) :: t) st v L := g_aload_n (i := 0) hd rfl rfl kk
theorem g_aloadN0  {t : List (Option Value)} (hd : decode b pc = .ok (.aload_n 0, 1)) (kk : G own b nL r d Q (pc + 1) (some (.null) :: t) (.null :: st) v L) : G own b nL r d Q pc (some (.null) :: t) st v L := g_aloadN_n (i := 0) hd rfl rfl kk
theorem g_istore0 {x : Int32} {t : List (Option Value)} {o : Option Value} (hd : decode b pc = .ok (.istore_n 0, 1)) (hn : 0 < nL)  (kk : G own b nL r d Q (pc + 1) (some (.int x) :: t) st v L) : G own b nL r d Q pc (o :: t) (.int x :: st) v L := g_istore_n (i := 0) hd rfl hn okp0 kk
theorem g_astore0 {x : Nat} {t : List (Option Value)} {o : Option Value} (hd : decode b pc = .ok (.astore_n 0, 1)) (hn : 0 < nL)  (kk : G own b nL r d Q (pc + 1) (some (.ref x) :: t) st v L) : G own b nL r d Q pc (o :: t) (.ref x :: st) v L := g_astore_n (i := 0) hd rfl hn okp0 kk
theorem g_astoreN0  {t : List (Option Value)} {o : Option Value} (hd : decode b pc = .ok (.astore_n 0, 1)) (hn : 0 < nL)  (kk : G own b nL r d Q (pc + 1) (some (.null) :: t) st v L) : G own b nL r d Q pc (o :: t) (.null :: st) v L := g_astoreN_n (i := 0) hd rfl hn okp0 kk
theorem g_lstore0 {x : Int64} {t : List (Option Value)} {o o2 : Option Value} (hd : decode b pc = .ok (.lstore_n 0, 1)) (hn : 0 + 1 < nL)  (kk : G own b nL r d Q (pc + 1) (some (.long x) :: none :: t) st v L) : G own b nL r d Q pc (o :: o2 :: t) (.long x :: st) v L := g_lstore_n (i := 0) hd rfl hn okp0 kk
theorem g_iinc0 {x : Int32} {t : List (Option Value)} {n : Int} (y : Int32) (hd : decode b pc = .ok (.iinc 0 n, 3)) (hy : x + Int32.ofInt n = y) (hn : 0 < nL)  (kk : G own b nL r d Q (pc + 3) (some (.int y) :: t) st v L) : G own b nL r d Q pc (some (.int x) :: t) st v L := g_iinc_w (i := 0) y hd rfl hy hn okp0 kk
theorem g_iload1 {x : Int32} {a0 : Option Value} {t : List (Option Value)} (hd : decode b pc = .ok (.iload_n 1, 1)) (kk : G own b nL r d Q (pc + 1) (a0 :: some (.int x) :: t) (.int x :: st) v L) : G own b nL r d Q pc (a0 :: some (.int x) :: t) st v L := g_iload_n (i := 1) hd rfl rfl kk
theorem g_lload1 {x : Int64} {a0 : Option Value} {t : List (Option Value)} (hd : decode b pc = .ok (.lload_n 1, 1)) (kk : G own b nL r d Q (pc + 1) (a0 :: some (.long x) :: t) (.long x :: st) v L) : G own b nL r d Q pc (a0 :: some (.long x) :: t) st v L := g_lload_n (i := 1) hd rfl rfl kk
theorem g_aload1 {x : Nat} {a0 : Option Value} {t : List (Option Value)} (hd : decode b pc = .ok (.aload_n 1, 1)) (kk : G own b nL r d Q (pc + 1) (a0 :: some (.ref x) :: t) (.ref x :: st) v L) : G own b nL r d Q pc (a0 :: some (.ref x) :: t) st v L := g_aload_n (i := 1) hd rfl rfl kk
theorem g_aloadN1  {a0 : Option Value} {t : List (Option Value)} (hd : decode b pc = .ok (.aload_n 1, 1)) (kk : G own b nL r d Q (pc + 1) (a0 :: some (.null) :: t) (.null :: st) v L) : G own b nL r d Q pc (a0 :: some (.null) :: t) st v L := g_aloadN_n (i := 1) hd rfl rfl kk
theorem g_istore1 {x : Int32} {a0 : Option Value} {t : List (Option Value)} {o : Option Value} (hd : decode b pc = .ok (.istore_n 1, 1)) (hn : 1 < nL) (ho : okp a0 = true) (kk : G own b nL r d Q (pc + 1) (a0 :: some (.int x) :: t) st v L) : G own b nL r d Q pc (a0 :: o :: t) (.int x :: st) v L := g_istore_n (i := 1) hd rfl hn (okpS (i := 0) (a0 := a0) rfl ho) kk
theorem g_astore1 {x : Nat} {a0 : Option Value} {t : List (Option Value)} {o : Option Value} (hd : decode b pc = .ok (.astore_n 1, 1)) (hn : 1 < nL) (ho : okp a0 = true) (kk : G own b nL r d Q (pc + 1) (a0 :: some (.ref x) :: t) st v L) : G own b nL r d Q pc (a0 :: o :: t) (.ref x :: st) v L := g_astore_n (i := 1) hd rfl hn (okpS (i := 0) (a0 := a0) rfl ho) kk
theorem g_astoreN1  {a0 : Option Value} {t : List (Option Value)} {o : Option Value} (hd : decode b pc = .ok (.astore_n 1, 1)) (hn : 1 < nL) (ho : okp a0 = true) (kk : G own b nL r d Q (pc + 1) (a0 :: some (.null) :: t) st v L) : G own b nL r d Q pc (a0 :: o :: t) (.null :: st) v L := g_astoreN_n (i := 1) hd rfl hn (okpS (i := 0) (a0 := a0) rfl ho) kk
theorem g_lstore1 {x : Int64} {a0 : Option Value} {t : List (Option Value)} {o o2 : Option Value} (hd : decode b pc = .ok (.lstore_n 1, 1)) (hn : 1 + 1 < nL) (ho : okp a0 = true) (kk : G own b nL r d Q (pc + 1) (a0 :: some (.long x) :: none :: t) st v L) : G own b nL r d Q pc (a0 :: o :: o2 :: t) (.long x :: st) v L := g_lstore_n (i := 1) hd rfl hn (okpS (i := 0) (a0 := a0) rfl ho) kk
theorem g_iinc1 {x : Int32} {a0 : Option Value} {t : List (Option Value)} {n : Int} (y : Int32) (hd : decode b pc = .ok (.iinc 1 n, 3)) (hy : x + Int32.ofInt n = y) (hn : 1 < nL) (ho : okp a0 = true) (kk : G own b nL r d Q (pc + 3) (a0 :: some (.int y) :: t) st v L) : G own b nL r d Q pc (a0 :: some (.int x) :: t) st v L := g_iinc_w (i := 1) y hd rfl hy hn (okpS (i := 0) (a0 := a0) rfl ho) kk
theorem g_iload2 {x : Int32} {a0 a1 : Option Value} {t : List (Option Value)} (hd : decode b pc = .ok (.iload_n 2, 1)) (kk : G own b nL r d Q (pc + 1) (a0 :: a1 :: some (.int x) :: t) (.int x :: st) v L) : G own b nL r d Q pc (a0 :: a1 :: some (.int x) :: t) st v L := g_iload_n (i := 2) hd rfl rfl kk
theorem g_lload2 {x : Int64} {a0 a1 : Option Value} {t : List (Option Value)} (hd : decode b pc = .ok (.lload_n 2, 1)) (kk : G own b nL r d Q (pc + 1) (a0 :: a1 :: some (.long x) :: t) (.long x :: st) v L) : G own b nL r d Q pc (a0 :: a1 :: some (.long x) :: t) st v L := g_lload_n (i := 2) hd rfl rfl kk
theorem g_aload2 {x : Nat} {a0 a1 : Option Value} {t : List (Option Value)} (hd : decode b pc = .ok (.aload_n 2, 1)) (kk : G own b nL r d Q (pc + 1) (a0 :: a1 :: some (.ref x) :: t) (.ref x :: st) v L) : G own b nL r d Q pc (a0 :: a1 :: some (.ref x) :: t) st v L := g_aload_n (i := 2) hd rfl rfl kk
theorem g_aloadN2  {a0 a1 : Option Value} {t : List (Option Value)} (hd : decode b pc = .ok (.aload_n 2, 1)) (kk : G own b nL r d Q (pc + 1) (a0 :: a1 :: some (.null) :: t) (.null :: st) v L) : G own b nL r d Q pc (a0 :: a1 :: some (.null) :: t) st v L := g_aloadN_n (i := 2) hd rfl rfl kk
theorem g_istore2 {x : Int32} {a0 a1 : Option Value} {t : List (Option Value)} {o : Option Value} (hd : decode b pc = .ok (.istore_n 2, 1)) (hn : 2 < nL) (ho : okp a1 = true) (kk : G own b nL r d Q (pc + 1) (a0 :: a1 :: some (.int x) :: t) st v L) : G own b nL r d Q pc (a0 :: a1 :: o :: t) (.int x :: st) v L := g_istore_n (i := 2) hd rfl hn (okpS (i := 1) (a0 := a1) rfl ho) kk
theorem g_astore2 {x : Nat} {a0 a1 : Option Value} {t : List (Option Value)} {o : Option Value} (hd : decode b pc = .ok (.astore_n 2, 1)) (hn : 2 < nL) (ho : okp a1 = true) (kk : G own b nL r d Q (pc + 1) (a0 :: a1 :: some (.ref x) :: t) st v L) : G own b nL r d Q pc (a0 :: a1 :: o :: t) (.ref x :: st) v L := g_astore_n (i := 2) hd rfl hn (okpS (i := 1) (a0 := a1) rfl ho) kk
theorem g_astoreN2  {a0 a1 : Option Value} {t : List (Option Value)} {o : Option Value} (hd : decode b pc = .ok (.astore_n 2, 1)) (hn : 2 < nL) (ho : okp a1 = true) (kk : G own b nL r d Q (pc + 1) (a0 :: a1 :: some (.null) :: t) st v L) : G own b nL r d Q pc (a0 :: a1 :: o :: t) (.null :: st) v L := g_astoreN_n (i := 2) hd rfl hn (okpS (i := 1) (a0 := a1) rfl ho) kk
theorem g_lstore2 {x : Int64} {a0 a1 : Option Value} {t : List (Option Value)} {o o2 : Option Value} (hd : decode b pc = .ok (.lstore_n 2, 1)) (hn : 2 + 1 < nL) (ho : okp a1 = true) (kk : G own b nL r d Q (pc + 1) (a0 :: a1 :: some (.long x) :: none :: t) st v L) : G own b nL r d Q pc (a0 :: a1 :: o :: o2 :: t) (.long x :: st) v L := g_lstore_n (i := 2) hd rfl hn (okpS (i := 1) (a0 := a1) rfl ho) kk
theorem g_iinc2 {x : Int32} {a0 a1 : Option Value} {t : List (Option Value)} {n : Int} (y : Int32) (hd : decode b pc = .ok (.iinc 2 n, 3)) (hy : x + Int32.ofInt n = y) (hn : 2 < nL) (ho : okp a1 = true) (kk : G own b nL r d Q (pc + 3) (a0 :: a1 :: some (.int y) :: t) st v L) : G own b nL r d Q pc (a0 :: a1 :: some (.int x) :: t) st v L := g_iinc_w (i := 2) y hd rfl hy hn (okpS (i := 1) (a0 := a1) rfl ho) kk
theorem g_iload3 {x : Int32} {a0 a1 a2 : Option Value} {t : List (Option Value)} (hd : decode b pc = .ok (.iload_n 3, 1)) (kk : G own b nL r d Q (pc + 1) (a0 :: a1 :: a2 :: some (.int x) :: t) (.int x :: st) v L) : G own b nL r d Q pc (a0 :: a1 :: a2 :: some (.int x) :: t) st v L := g_iload_n (i := 3) hd rfl rfl kk
theorem g_lload3 {x : Int64} {a0 a1 a2 : Option Value} {t : List (Option Value)} (hd : decode b pc = .ok (.lload_n 3, 1)) (kk : G own b nL r d Q (pc + 1) (a0 :: a1 :: a2 :: some (.long x) :: t) (.long x :: st) v L) : G own b nL r d Q pc (a0 :: a1 :: a2 :: some (.long x) :: t) st v L := g_lload_n (i := 3) hd rfl rfl kk
theorem g_aload3 {x : Nat} {a0 a1 a2 : Option Value} {t : List (Option Value)} (hd : decode b pc = .ok (.aload_n 3, 1)) (kk : G own b nL r d Q (pc + 1) (a0 :: a1 :: a2 :: some (.ref x) :: t) (.ref x :: st) v L) : G own b nL r d Q pc (a0 :: a1 :: a2 :: some (.ref x) :: t) st v L := g_aload_n (i := 3) hd rfl rfl kk
theorem g_aloadN3  {a0 a1 a2 : Option Value} {t : List (Option Value)} (hd : decode b pc = .ok (.aload_n 3, 1)) (kk : G own b nL r d Q (pc + 1) (a0 :: a1 :: a2 :: some (.null) :: t) (.null :: st) v L) : G own b nL r d Q pc (a0 :: a1 :: a2 :: some (.null) :: t) st v L := g_aloadN_n (i := 3) hd rfl rfl kk
theorem g_istore3 {x : Int32} {a0 a1 a2 : Option Value} {t : List (Option Value)} {o : Option Value} (hd : decode b pc = .ok (.istore_n 3, 1)) (hn : 3 < nL) (ho : okp a2 = true) (kk : G own b nL r d Q (pc + 1) (a0 :: a1 :: a2 :: some (.int x) :: t) st v L) : G own b nL r d Q pc (a0 :: a1 :: a2 :: o :: t) (.int x :: st) v L := g_istore_n (i := 3) hd rfl hn (okpS (i := 2) (a0 := a2) rfl ho) kk
theorem g_astore3 {x : Nat} {a0 a1 a2 : Option Value} {t : List (Option Value)} {o : Option Value} (hd : decode b pc = .ok (.astore_n 3, 1)) (hn : 3 < nL) (ho : okp a2 = true) (kk : G own b nL r d Q (pc + 1) (a0 :: a1 :: a2 :: some (.ref x) :: t) st v L) : G own b nL r d Q pc (a0 :: a1 :: a2 :: o :: t) (.ref x :: st) v L := g_astore_n (i := 3) hd rfl hn (okpS (i := 2) (a0 := a2) rfl ho) kk
theorem g_astoreN3  {a0 a1 a2 : Option Value} {t : List (Option Value)} {o : Option Value} (hd : decode b pc = .ok (.astore_n 3, 1)) (hn : 3 < nL) (ho : okp a2 = true) (kk : G own b nL r d Q (pc + 1) (a0 :: a1 :: a2 :: some (.null) :: t) st v L) : G own b nL r d Q pc (a0 :: a1 :: a2 :: o :: t) (.null :: st) v L := g_astoreN_n (i := 3) hd rfl hn (okpS (i := 2) (a0 := a2) rfl ho) kk
theorem g_lstore3 {x : Int64} {a0 a1 a2 : Option Value} {t : List (Option Value)} {o o2 : Option Value} (hd : decode b pc = .ok (.lstore_n 3, 1)) (hn : 3 + 1 < nL) (ho : okp a2 = true) (kk : G own b nL r d Q (pc + 1) (a0 :: a1 :: a2 :: some (.long x) :: none :: t) st v L) : G own b nL r d Q pc (a0 :: a1 :: a2 :: o :: o2 :: t) (.long x :: st) v L := g_lstore_n (i := 3) hd rfl hn (okpS (i := 2) (a0 := a2) rfl ho) kk
theorem g_iinc3 {x : Int32} {a0 a1 a2 : Option Value} {t : List (Option Value)} {n : Int} (y : Int32) (hd : decode b pc = .ok (.iinc 3 n, 3)) (hy : x + Int32.ofInt n = y) (hn : 3 < nL) (ho : okp a2 = true) (kk : G own b nL r d Q (pc + 3) (a0 :: a1 :: a2 :: some (.int y) :: t) st v L) : G own b nL r d Q pc (a0 :: a1 :: a2 :: some (.int x) :: t) st v L := g_iinc_w (i := 3) y hd rfl hy hn (okpS (i := 2) (a0 := a2) rfl ho) kk
theorem g_iload4 {x : Int32} {a0 a1 a2 a3 : Option Value} {t : List (Option Value)} (hd : decode b pc = .ok (.iload 4, 2)) (kk : G own b nL r d Q (pc + 2) (a0 :: a1 :: a2 :: a3 :: some (.int x) :: t) (.int x :: st) v L) : G own b nL r d Q pc (a0 :: a1 :: a2 :: a3 :: some (.int x) :: t) st v L := g_iload_w (i := 4) hd rfl kk
theorem g_lload4 {x : Int64} {a0 a1 a2 a3 : Option Value} {t : List (Option Value)} (hd : decode b pc = .ok (.lload 4, 2)) (kk : G own b nL r d Q (pc + 2) (a0 :: a1 :: a2 :: a3 :: some (.long x) :: t) (.long x :: st) v L) : G own b nL r d Q pc (a0 :: a1 :: a2 :: a3 :: some (.long x) :: t) st v L := g_lload_w (i := 4) hd rfl kk
theorem g_aload4 {x : Nat} {a0 a1 a2 a3 : Option Value} {t : List (Option Value)} (hd : decode b pc = .ok (.aload 4, 2)) (kk : G own b nL r d Q (pc + 2) (a0 :: a1 :: a2 :: a3 :: some (.ref x) :: t) (.ref x :: st) v L) : G own b nL r d Q pc (a0 :: a1 :: a2 :: a3 :: some (.ref x) :: t) st v L := g_aload_w (i := 4) hd rfl kk
theorem g_aloadN4  {a0 a1 a2 a3 : Option Value} {t : List (Option Value)} (hd : decode b pc = .ok (.aload 4, 2)) (kk : G own b nL r d Q (pc + 2) (a0 :: a1 :: a2 :: a3 :: some (.null) :: t) (.null :: st) v L) : G own b nL r d Q pc (a0 :: a1 :: a2 :: a3 :: some (.null) :: t) st v L := g_aloadN_w (i := 4) hd rfl kk
theorem g_istore4 {x : Int32} {a0 a1 a2 a3 : Option Value} {t : List (Option Value)} {o : Option Value} (hd : decode b pc = .ok (.istore 4, 2)) (hn : 4 < nL) (ho : okp a3 = true) (kk : G own b nL r d Q (pc + 2) (a0 :: a1 :: a2 :: a3 :: some (.int x) :: t) st v L) : G own b nL r d Q pc (a0 :: a1 :: a2 :: a3 :: o :: t) (.int x :: st) v L := g_istore_w (i := 4) hd hn (okpS (i := 3) (a0 := a3) rfl ho) kk
theorem g_astore4 {x : Nat} {a0 a1 a2 a3 : Option Value} {t : List (Option Value)} {o : Option Value} (hd : decode b pc = .ok (.astore 4, 2)) (hn : 4 < nL) (ho : okp a3 = true) (kk : G own b nL r d Q (pc + 2) (a0 :: a1 :: a2 :: a3 :: some (.ref x) :: t) st v L) : G own b nL r d Q pc (a0 :: a1 :: a2 :: a3 :: o :: t) (.ref x :: st) v L := g_astore_w (i := 4) hd hn (okpS (i := 3) (a0 := a3) rfl ho) kk
theorem g_astoreN4  {a0 a1 a2 a3 : Option Value} {t : List (Option Value)} {o : Option Value} (hd : decode b pc = .ok (.astore 4, 2)) (hn : 4 < nL) (ho : okp a3 = true) (kk : G own b nL r d Q (pc + 2) (a0 :: a1 :: a2 :: a3 :: some (.null) :: t) st v L) : G own b nL r d Q pc (a0 :: a1 :: a2 :: a3 :: o :: t) (.null :: st) v L := g_astoreN_w (i := 4) hd hn (okpS (i := 3) (a0 := a3) rfl ho) kk
theorem g_lstore4 {x : Int64} {a0 a1 a2 a3 : Option Value} {t : List (Option Value)} {o o2 : Option Value} (hd : decode b pc = .ok (.lstore 4, 2)) (hn : 4 + 1 < nL) (ho : okp a3 = true) (kk : G own b nL r d Q (pc + 2) (a0 :: a1 :: a2 :: a3 :: some (.long x) :: none :: t) st v L) : G own b nL r d Q pc (a0 :: a1 :: a2 :: a3 :: o :: o2 :: t) (.long x :: st) v L := g_lstore_w (i := 4) hd hn (okpS (i := 3) (a0 := a3) rfl ho) kk
theorem g_iinc4 {x : Int32} {a0 a1 a2 a3 : Option Value} {t : List (Option Value)} {n : Int} (y : Int32) (hd : decode b pc = .ok (.iinc 4 n, 3)) (hy : x + Int32.ofInt n = y) (hn : 4 < nL) (ho : okp a3 = true) (kk : G own b nL r d Q (pc + 3) (a0 :: a1 :: a2 :: a3 :: some (.int y) :: t) st v L) : G own b nL r d Q pc (a0 :: a1 :: a2 :: a3 :: some (.int x) :: t) st v L := g_iinc_w (i := 4) y hd rfl hy hn (okpS (i := 3) (a0 := a3) rfl ho) kk
theorem g_iload5 {x : Int32} {a0 a1 a2 a3 a4 : Option Value} {t : List (Option Value)} (hd : decode b pc = .ok (.iload 5, 2)) (kk : G own b nL r d Q (pc + 2) (a0 :: a1 :: a2 :: a3 :: a4 :: some (.int x) :: t) (.int x :: st) v L) : G own b nL r d Q pc (a0 :: a1 :: a2 :: a3 :: a4 :: some (.int x) :: t) st v L := g_iload_w (i := 5) hd rfl kk
theorem g_lload5 {x : Int64} {a0 a1 a2 a3 a4 : Option Value} {t : List (Option Value)} (hd : decode b pc = .ok (.lload 5, 2)) (kk : G own b nL r d Q (pc + 2) (a0 :: a1 :: a2 :: a3 :: a4 :: some (.long x) :: t) (.long x :: st) v L) : G own b nL r d Q pc (a0 :: a1 :: a2 :: a3 :: a4 :: some (.long x) :: t) st v L := g_lload_w (i := 5) hd rfl kk
theorem g_aload5 {x : Nat} {a0 a1 a2 a3 a4 : Option Value} {t : List (Option Value)} (hd : decode b pc = .ok (.aload 5, 2)) (kk : G own b nL r d Q (pc + 2) (a0 :: a1 :: a2 :: a3 :: a4 :: some (.ref x) :: t) (.ref x :: st) v L) : G own b nL r d Q pc (a0 :: a1 :: a2 :: a3 :: a4 :: some (.ref x) :: t) st v L := g_aload_w (i := 5) hd rfl kk
theorem g_aloadN5  {a0 a1 a2 a3 a4 : Option Value} {t : List (Option Value)} (hd : decode b pc = .ok (.aload 5, 2)) (kk : G own b nL r d Q (pc + 2) (a0 :: a1 :: a2 :: a3 :: a4 :: some (.null) :: t) (.null :: st) v L) : G own b nL r d Q pc (a0 :: a1 :: a2 :: a3 :: a4 :: some (.null) :: t) st v L := g_aloadN_w (i := 5) hd rfl kk
theorem g_istore5 {x : Int32} {a0 a1 a2 a3 a4 : Option Value} {t : List (Option Value)} {o : Option Value} (hd : decode b pc = .ok (.istore 5, 2)) (hn : 5 < nL) (ho : okp a4 = true) (kk : G own b nL r d Q (pc + 2) (a0 :: a1 :: a2 :: a3 :: a4 :: some (.int x) :: t) st v L) : G own b nL r d Q pc (a0 :: a1 :: a2 :: a3 :: a4 :: o :: t) (.int x :: st) v L := g_istore_w (i := 5) hd hn (okpS (i := 4) (a0 := a4) rfl ho) kk
theorem g_astore5 {x : Nat} {a0 a1 a2 a3 a4 : Option Value} {t : List (Option Value)} {o : Option Value} (hd : decode b pc = .ok (.astore 5, 2)) (hn : 5 < nL) (ho : okp a4 = true) (kk : G own b nL r d Q (pc + 2) (a0 :: a1 :: a2 :: a3 :: a4 :: some (.ref x) :: t) st v L) : G own b nL r d Q pc (a0 :: a1 :: a2 :: a3 :: a4 :: o :: t) (.ref x :: st) v L := g_astore_w (i := 5) hd hn (okpS (i := 4) (a0 := a4) rfl ho) kk
theorem g_astoreN5  {a0 a1 a2 a3 a4 : Option Value} {t : List (Option Value)} {o : Option Value} (hd : decode b pc = .ok (.astore 5, 2)) (hn : 5 < nL) (ho : okp a4 = true) (kk : G own b nL r d Q (pc + 2) (a0 :: a1 :: a2 :: a3 :: a4 :: some (.null) :: t) st v L) : G own b nL r d Q pc (a0 :: a1 :: a2 :: a3 :: a4 :: o :: t) (.null :: st) v L := g_astoreN_w (i := 5) hd hn (okpS (i := 4) (a0 := a4) rfl ho) kk
theorem g_lstore5 {x : Int64} {a0 a1 a2 a3 a4 : Option Value} {t : List (Option Value)} {o o2 : Option Value} (hd : decode b pc = .ok (.lstore 5, 2)) (hn : 5 + 1 < nL) (ho : okp a4 = true) (kk : G own b nL r d Q (pc + 2) (a0 :: a1 :: a2 :: a3 :: a4 :: some (.long x) :: none :: t) st v L) : G own b nL r d Q pc (a0 :: a1 :: a2 :: a3 :: a4 :: o :: o2 :: t) (.long x :: st) v L := g_lstore_w (i := 5) hd hn (okpS (i := 4) (a0 := a4) rfl ho) kk
theorem g_iinc5 {x : Int32} {a0 a1 a2 a3 a4 : Option Value} {t : List (Option Value)} {n : Int} (y : Int32) (hd : decode b pc = .ok (.iinc 5 n, 3)) (hy : x + Int32.ofInt n = y) (hn : 5 < nL) (ho : okp a4 = true) (kk : G own b nL r d Q (pc + 3) (a0 :: a1 :: a2 :: a3 :: a4 :: some (.int y) :: t) st v L) : G own b nL r d Q pc (a0 :: a1 :: a2 :: a3 :: a4 :: some (.int x) :: t) st v L := g_iinc_w (i := 5) y hd rfl hy hn (okpS (i := 4) (a0 := a4) rfl ho) kk
theorem g_iload6 {x : Int32} {a0 a1 a2 a3 a4 a5 : Option Value} {t : List (Option Value)} (hd : decode b pc = .ok (.iload 6, 2)) (kk : G own b nL r d Q (pc + 2) (a0 :: a1 :: a2 :: a3 :: a4 :: a5 :: some (.int x) :: t) (.int x :: st) v L) : G own b nL r d Q pc (a0 :: a1 :: a2 :: a3 :: a4 :: a5 :: some (.int x) :: t) st v L := g_iload_w (i := 6) hd rfl kk
theorem g_lload6 {x : Int64} {a0 a1 a2 a3 a4 a5 : Option Value} {t : List (Option Value)} (hd : decode b pc = .ok (.lload 6, 2)) (kk : G own b nL r d Q (pc + 2) (a0 :: a1 :: a2 :: a3 :: a4 :: a5 :: some (.long x) :: t) (.long x :: st) v L) : G own b nL r d Q pc (a0 :: a1 :: a2 :: a3 :: a4 :: a5 :: some (.long x) :: t) st v L := g_lload_w (i := 6) hd rfl kk
theorem g_aload6 {x : Nat} {a0 a1 a2 a3 a4 a5 : Option Value} {t : List (Option Value)} (hd : decode b pc = .ok (.aload 6, 2)) (kk : G own b nL r d Q (pc + 2) (a0 :: a1 :: a2 :: a3 :: a4 :: a5 :: some (.ref x) :: t) (.ref x :: st) v L) : G own b nL r d Q pc (a0 :: a1 :: a2 :: a3 :: a4 :: a5 :: some (.ref x) :: t) st v L := g_aload_w (i := 6) hd rfl kk
theorem g_aloadN6  {a0 a1 a2 a3 a4 a5 : Option Value} {t : List (Option Value)} (hd : decode b pc = .ok (.aload 6, 2)) (kk : G own b nL r d Q (pc + 2) (a0 :: a1 :: a2 :: a3 :: a4 :: a5 :: some (.null) :: t) (.null :: st) v L) : G own b nL r d Q pc (a0 :: a1 :: a2 :: a3 :: a4 :: a5 :: some (.null) :: t) st v L := g_aloadN_w (i := 6) hd rfl kk
theorem g_istore6 {x : Int32} {a0 a1 a2 a3 a4 a5 : Option Value} {t : List (Option Value)} {o : Option Value} (hd : decode b pc = .ok (.istore 6, 2)) (hn : 6 < nL) (ho : okp a5 = true) (kk : G own b nL r d Q (pc + 2) (a0 :: a1 :: a2 :: a3 :: a4 :: a5 :: some (.int x) :: t) st v L) : G own b nL r d Q pc (a0 :: a1 :: a2 :: a3 :: a4 :: a5 :: o :: t) (.int x :: st) v L := g_istore_w (i := 6) hd hn (okpS (i := 5) (a0 := a5) rfl ho) kk
theorem g_astore6 {x : Nat} {a0 a1 a2 a3 a4 a5 : Option Value} {t : List (Option Value)} {o : Option Value} (hd : decode b pc = .ok (.astore 6, 2)) (hn : 6 < nL) (ho : okp a5 = true) (kk : G own b nL r d Q (pc + 2) (a0 :: a1 :: a2 :: a3 :: a4 :: a5 :: some (.ref x) :: t) st v L) : G own b nL r d Q pc (a0 :: a1 :: a2 :: a3 :: a4 :: a5 :: o :: t) (.ref x :: st) v L := g_astore_w (i := 6) hd hn (okpS (i := 5) (a0 := a5) rfl ho) kk
theorem g_astoreN6  {a0 a1 a2 a3 a4 a5 : Option Value} {t : List (Option Value)} {o : Option Value} (hd : decode b pc = .ok (.astore 6, 2)) (hn : 6 < nL) (ho : okp a5 = true) (kk : G own b nL r d Q (pc + 2) (a0 :: a1 :: a2 :: a3 :: a4 :: a5 :: some (.null) :: t) st v L) : G own b nL r d Q pc (a0 :: a1 :: a2 :: a3 :: a4 :: a5 :: o :: t) (.null :: st) v L := g_astoreN_w (i := 6) hd hn (okpS (i := 5) (a0 := a5) rfl ho) kk
theorem g_lstore6 {x : Int64} {a0 a1 a2 a3 a4 a5 : Option Value} {t : List (Option Value)} {o o2 : Option Value} (hd : decode b pc = .ok (.lstore 6, 2)) (hn : 6 + 1 < nL) (ho : okp a5 = true) (kk : G own b nL r d Q (pc + 2) (a0 :: a1 :: a2 :: a3 :: a4 :: a5 :: some (.long x) :: none :: t) st v L) : G own b nL r d Q pc (a0 :: a1 :: a2 :: a3 :: a4 :: a5 :: o :: o2 :: t) (.long x :: st) v L := g_lstore_w (i := 6) hd hn (okpS (i := 5) (a0 := a5) rfl ho) kk
theorem g_iinc6 {x : Int32} {a0 a1 a2 a3 a4 a5 : Option Value} {t : List (Option Value)} {n : Int} (y : Int32) (hd : decode b pc = .ok (.iinc 6 n, 3)) (hy : x + Int32.ofInt n = y) (hn : 6 < nL) (ho : okp a5 = true) (kk : G own b nL r d Q (pc + 3) (a0 :: a1 :: a2 :: a3 :: a4 :: a5 :: some (.int y) :: t) st v L) : G own b nL r d Q pc (a0 :: a1 :: a2 :: a3 :: a4 :: a5 :: some (.int x) :: t) st v L := g_iinc_w (i := 6) y hd rfl hy hn (okpS (i := 5) (a0 := a5) rfl ho) kk
theorem g_iload7 {x : Int32} {a0 a1 a2 a3 a4 a5 a6 : Option Value} {t : List (Option Value)} (hd : decode b pc = .ok (.iload 7, 2)) (kk : G own b nL r d Q (pc + 2) (a0 :: a1 :: a2 :: a3 :: a4 :: a5 :: a6 :: some (.int x) :: t) (.int x :: st) v L) : G own b nL r d Q pc (a0 :: a1 :: a2 :: a3 :: a4 :: a5 :: a6 :: some (.int x) :: t) st v L := g_iload_w (i := 7) hd rfl kk
theorem g_lload7 {x : Int64} {a0 a1 a2 a3 a4 a5 a6 : Option Value} {t : List (Option Value)} (hd : decode b pc = .ok (.lload 7, 2)) (kk : G own b nL r d Q (pc + 2) (a0 :: a1 :: a2 :: a3 :: a4 :: a5 :: a6 :: some (.long x) :: t) (.long x :: st) v L) : G own b nL r d Q pc (a0 :: a1 :: a2 :: a3 :: a4 :: a5 :: a6 :: some (.long x) :: t) st v L := g_lload_w (i := 7) hd rfl kk
theorem g_aload7 {x : Nat} {a0 a1 a2 a3 a4 a5 a6 : Option Value} {t : List (Option Value)} (hd : decode b pc = .ok (.aload 7, 2)) (kk : G own b nL r d Q (pc + 2) (a0 :: a1 :: a2 :: a3 :: a4 :: a5 :: a6 :: some (.ref x) :: t) (.ref x :: st) v L) : G own b nL r d Q pc (a0 :: a1 :: a2 :: a3 :: a4 :: a5 :: a6 :: some (.ref x) :: t) st v L := g_aload_w (i := 7) hd rfl kk
theorem g_aloadN7  {a0 a1 a2 a3 a4 a5 a6 : Option Value} {t : List (Option Value)} (hd : decode b pc = .ok (.aload 7, 2)) (kk : G own b nL r d Q (pc + 2) (a0 :: a1 :: a2 :: a3 :: a4 :: a5 :: a6 :: some (.null) :: t) (.null :: st) v L) : G own b nL r d Q pc (a0 :: a1 :: a2 :: a3 :: a4 :: a5 :: a6 :: some (.null) :: t) st v L := g_aloadN_w (i := 7) hd rfl kk
theorem g_istore7 {x : Int32} {a0 a1 a2 a3 a4 a5 a6 : Option Value} {t : List (Option Value)} {o : Option Value} (hd : decode b pc = .ok (.istore 7, 2)) (hn : 7 < nL) (ho : okp a6 = true) (kk : G own b nL r d Q (pc + 2) (a0 :: a1 :: a2 :: a3 :: a4 :: a5 :: a6 :: some (.int x) :: t) st v L) : G own b nL r d Q pc (a0 :: a1 :: a2 :: a3 :: a4 :: a5 :: a6 :: o :: t) (.int x :: st) v L := g_istore_w (i := 7) hd hn (okpS (i := 6) (a0 := a6) rfl ho) kk
theorem g_astore7 {x : Nat} {a0 a1 a2 a3 a4 a5 a6 : Option Value} {t : List (Option Value)} {o : Option Value} (hd : decode b pc = .ok (.astore 7, 2)) (hn : 7 < nL) (ho : okp a6 = true) (kk : G own b nL r d Q (pc + 2) (a0 :: a1 :: a2 :: a3 :: a4 :: a5 :: a6 :: some (.ref x) :: t) st v L) : G own b nL r d Q pc (a0 :: a1 :: a2 :: a3 :: a4 :: a5 :: a6 :: o :: t) (.ref x :: st) v L := g_astore_w (i := 7) hd hn (okpS (i := 6) (a0 := a6) rfl ho) kk
theorem g_astoreN7  {a0 a1 a2 a3 a4 a5 a6 : Option Value} {t : List (Option Value)} {o : Option Value} (hd : decode b pc = .ok (.astore 7, 2)) (hn : 7 < nL) (ho : okp a6 = true) (kk : G own b nL r d Q (pc + 2) (a0 :: a1 :: a2 :: a3 :: a4 :: a5 :: a6 :: some (.null) :: t) st v L) : G own b nL r d Q pc (a0 :: a1 :: a2 :: a3 :: a4 :: a5 :: a6 :: o :: t) (.null :: st) v L := g_astoreN_w (i := 7) hd hn (okpS (i := 6) (a0 := a6) rfl ho) kk
theorem g_lstore7 {x : Int64} {a0 a1 a2 a3 a4 a5 a6 : Option Value} {t : List (Option Value)} {o o2 : Option Value} (hd : decode b pc = .ok (.lstore 7, 2)) (hn : 7 + 1 < nL) (ho : okp a6 = true) (kk : G own b nL r d Q (pc + 2) (a0 :: a1 :: a2 :: a3 :: a4 :: a5 :: a6 :: some (.long x) :: none :: t) st v L) : G own b nL r d Q pc (a0 :: a1 :: a2 :: a3 :: a4 :: a5 :: a6 :: o :: o2 :: t) (.long x :: st) v L := g_lstore_w (i := 7) hd hn (okpS (i := 6) (a0 := a6) rfl ho) kk
theorem g_iinc7 {x : Int32} {a0 a1 a2 a3 a4 a5 a6 : Option Value} {t : List (Option Value)} {n : Int} (y : Int32) (hd : decode b pc = .ok (.iinc 7 n, 3)) (hy : x + Int32.ofInt n = y) (hn : 7 < nL) (ho : okp a6 = true) (kk : G own b nL r d Q (pc + 3) (a0 :: a1 :: a2 :: a3 :: a4 :: a5 :: a6 :: some (.int y) :: t) st v L) : G own b nL r d Q pc (a0 :: a1 :: a2 :: a3 :: a4 :: a5 :: a6 :: some (.int x) :: t) st v L := g_iinc_w (i := 7) y hd rfl hy hn (okpS (i := 6) (a0 := a6) rfl ho) kk
theorem g_iload8 {x : Int32} {a0 a1 a2 a3 a4 a5 a6 a7 : Option Value} {t : List (Option Value)} (hd : decode b pc = .ok (.iload 8, 2)) (kk : G own b nL r d Q (pc + 2) (a0 :: a1 :: a2 :: a3 :: a4 :: a5 :: a6 :: a7 :: some (.int x) :: t) (.int x :: st) v L) : G own b nL r d Q pc (a0 :: a1 :: a2 :: a3 :: a4 :: a5 :: a6 :: a7 :: some (.int x) :: t) st v L := g_iload_w (i := 8) hd rfl kk
theorem g_lload8 {x : Int64} {a0 a1 a2 a3 a4 a5 a6 a7 : Option Value} {t : List (Option Value)} (hd : decode b pc = .ok (.lload 8, 2)) (kk : G own b nL r d Q (pc + 2) (a0 :: a1 :: a2 :: a3 :: a4 :: a5 :: a6 :: a7 :: some (.long x) :: t) (.long x :: st) v L) : G own b nL r d Q pc (a0 :: a1 :: a2 :: a3 :: a4 :: a5 :: a6 :: a7 :: some (.long x) :: t) st v L := g_lload_w (i := 8) hd rfl kk
theorem g_aload8 {x : Nat} {a0 a1 a2 a3 a4 a5 a6 a7 : Option Value} {t : List (Option Value)} (hd : decode b pc = .ok (.aload 8, 2)) (kk : G own b nL r d Q (pc + 2) (a0 :: a1 :: a2 :: a3 :: a4 :: a5 :: a6 :: a7 :: some (.ref x) :: t) (.ref x :: st) v L) : G own b nL r d Q pc (a0 :: a1 :: a2 :: a3 :: a4 :: a5 :: a6 :: a7 :: some (.ref x) :: t) st v L := g_aload_w (i := 8) hd rfl kk
theorem g_aloadN8  {a0 a1 a2 a3 a4 a5 a6 a7 : Option Value} {t : List (Option Value)} (hd : decode b pc = .ok (.aload 8, 2)) (kk : G own b nL r d Q (pc + 2) (a0 :: a1 :: a2 :: a3 :: a4 :: a5 :: a6 :: a7 :: some (.null) :: t) (.null :: st) v L) : G own b nL r d Q pc (a0 :: a1 :: a2 :: a3 :: a4 :: a5 :: a6 :: a7 :: some (.null) :: t) st v L := g_aloadN_w (i := 8) hd rfl kk
theorem g_istore8 {x : Int32} {a0 a1 a2 a3 a4 a5 a6 a7 : Option Value} {t : List (Option Value)} {o : Option Value} (hd : decode b pc = .ok (.istore 8, 2)) (hn : 8 < nL) (ho : okp a7 = true) (kk : G own b nL r d Q (pc + 2) (a0 :: a1 :: a2 :: a3 :: a4 :: a5 :: a6 :: a7 :: some (.int x) :: t) st v L) : G own b nL r d Q pc (a0 :: a1 :: a2 :: a3 :: a4 :: a5 :: a6 :: a7 :: o :: t) (.int x :: st) v L := g_istore_w (i := 8) hd hn (okpS (i := 7) (a0 := a7) rfl ho) kk
theorem g_astore8 {x : Nat} {a0 a1 a2 a3 a4 a5 a6 a7 : Option Value} {t : List (Option Value)} {o : Option Value} (hd : decode b pc = .ok (.astore 8, 2)) (hn : 8 < nL) (ho : okp a7 = true) (kk : G own b nL r d Q (pc + 2) (a0 :: a1 :: a2 :: a3 :: a4 :: a5 :: a6 :: a7 :: some (.ref x) :: t) st v L) : G own b nL r d Q pc (a0 :: a1 :: a2 :: a3 :: a4 :: a5 :: a6 :: a7 :: o :: t) (.ref x :: st) v L := g_astore_w (i := 8) hd hn (okpS (i := 7) (a0 := a7) rfl ho) kk
theorem g_astoreN8  {a0 a1 a2 a3 a4 a5 a6 a7 : Option Value} {t : List (Option Value)} {o : Option Value} (hd : decode b pc = .ok (.astore 8, 2)) (hn : 8 < nL) (ho : okp a7 = true) (kk : G own b nL r d Q (pc + 2) (a0 :: a1 :: a2 :: a3 :: a4 :: a5 :: a6 :: a7 :: some (.null) :: t) st v L) : G own b nL r d Q pc (a0 :: a1 :: a2 :: a3 :: a4 :: a5 :: a6 :: a7 :: o :: t) (.null :: st) v L := g_astoreN_w (i := 8) hd hn (okpS (i := 7) (a0 := a7) rfl ho) kk
theorem g_lstore8 {x : Int64} {a0 a1 a2 a3 a4 a5 a6 a7 : Option Value} {t : List (Option Value)} {o o2 : Option Value} (hd : decode b pc = .ok (.lstore 8, 2)) (hn : 8 + 1 < nL) (ho : okp a7 = true) (kk : G own b nL r d Q (pc + 2) (a0 :: a1 :: a2 :: a3 :: a4 :: a5 :: a6 :: a7 :: some (.long x) :: none :: t) st v L) : G own b nL r d Q pc (a0 :: a1 :: a2 :: a3 :: a4 :: a5 :: a6 :: a7 :: o :: o2 :: t) (.long x :: st) v L := g_lstore_w (i := 8) hd hn (okpS (i := 7) (a0 := a7) rfl ho) kk
theorem g_iinc8 {x : Int32} {a0 a1 a2 a3 a4 a5 a6 a7 : Option Value} {t : List (Option Value)} {n : Int} (y : Int32) (hd : decode b pc = .ok (.iinc 8 n, 3)) (hy : x + Int32.ofInt n = y) (hn : 8 < nL) (ho : okp a7 = true) (kk : G own b nL r d Q (pc + 3) (a0 :: a1 :: a2 :: a3 :: a4 :: a5 :: a6 :: a7 :: some (.int y) :: t) st v L) : G own b nL r d Q pc (a0 :: a1 :: a2 :: a3 :: a4 :: a5 :: a6 :: a7 :: some (.int x) :: t) st v L := g_iinc_w (i := 8) y hd rfl hy hn (okpS (i := 7) (a0 := a7) rfl ho) kk
theorem g_iload9 {x : Int32} {a0 a1 a2 a3 a4 a5 a6 a7 a8 : Option Value} {t : List (Option Value)} (hd : decode b pc = .ok (.iload 9, 2)) (kk : G own b nL r d Q (pc + 2) (a0 :: a1 :: a2 :: a3 :: a4 :: a5 :: a6 :: a7 :: a8 :: some (.int x) :: t) (.int x :: st) v L) : G own b nL r d Q pc (a0 :: a1 :: a2 :: a3 :: a4 :: a5 :: a6 :: a7 :: a8 :: some (.int x) :: t) st v L := g_iload_w (i := 9) hd rfl kk
theorem g_lload9 {x : Int64} {a0 a1 a2 a3 a4 a5 a6 a7 a8 : Option Value} {t : List (Option Value)} (hd : decode b pc = .ok (.lload 9, 2)) (kk : G own b nL r d Q (pc + 2) (a0 :: a1 :: a2 :: a3 :: a4 :: a5 :: a6 :: a7 :: a8 :: some (.long x) :: t) (.long x :: st) v L) : G own b nL r d Q pc (a0 :: a1 :: a2 :: a3 :: a4 :: a5 :: a6 :: a7 :: a8 :: some (.long x) :: t) st v L := g_lload_w (i := 9) hd rfl kk
theorem g_aload9 {x : Nat} {a0 a1 a2 a3 a4 a5 a6 a7 a8 : Option Value} {t : List (Option Value)} (hd : decode b pc = .ok (.aload 9, 2)) (kk : G own b nL r d Q (pc + 2) (a0 :: a1 :: a2 :: a3 :: a4 :: a5 :: a6 :: a7 :: a8 :: some (.ref x) :: t) (.ref x :: st) v L) : G own b nL r d Q pc (a0 :: a1 :: a2 :: a3 :: a4 :: a5 :: a6 :: a7 :: a8 :: some (.ref x) :: t) st v L := g_aload_w (i := 9) hd rfl kk
theorem g_aloadN9  {a0 a1 a2 a3 a4 a5 a6 a7 a8 : Option Value} {t : List (Option Value)} (hd : decode b pc = .ok (.aload 9, 2)) (kk : G own b nL r d Q (pc + 2) (a0 :: a1 :: a2 :: a3 :: a4 :: a5 :: a6 :: a7 :: a8 :: some (.null) :: t) (.null :: st) v L) : G own b nL r d Q pc (a0 :: a1 :: a2 :: a3 :: a4 :: a5 :: a6 :: a7 :: a8 :: some (.null) :: t) st v L := g_aloadN_w (i := 9) hd rfl kk
theorem g_istore9 {x : Int32} {a0 a1 a2 a3 a4 a5 a6 a7 a8 : Option Value} {t : List (Option Value)} {o : Option Value} (hd : decode b pc = .ok (.istore 9, 2)) (hn : 9 < nL) (ho : okp a8 = true) (kk : G own b nL r d Q (pc + 2) (a0 :: a1 :: a2 :: a3 :: a4 :: a5 :: a6 :: a7 :: a8 :: some (.int x) :: t) st v L) : G own b nL r d Q pc (a0 :: a1 :: a2 :: a3 :: a4 :: a5 :: a6 :: a7 :: a8 :: o :: t) (.int x :: st) v L := g_istore_w (i := 9) hd hn (okpS (i := 8) (a0 := a8) rfl ho) kk
theorem g_astore9 {x : Nat} {a0 a1 a2 a3 a4 a5 a6 a7 a8 : Option Value} {t : List (Option Value)} {o : Option Value} (hd : decode b pc = .ok (.astore 9, 2)) (hn : 9 < nL) (ho : okp a8 = true) (kk : G own b nL r d Q (pc + 2) (a0 :: a1 :: a2 :: a3 :: a4 :: a5 :: a6 :: a7 :: a8 :: some (.ref x) :: t) st v L) : G own b nL r d Q pc (a0 :: a1 :: a2 :: a3 :: a4 :: a5 :: a6 :: a7 :: a8 :: o :: t) (.ref x :: st) v L := g_astore_w (i := 9) hd hn (okpS (i := 8) (a0 := a8) rfl ho) kk
theorem g_astoreN9  {a0 a1 a2 a3 a4 a5 a6 a7 a8 : Option Value} {t : List (Option Value)} {o : Option Value} (hd : decode b pc = .ok (.astore 9, 2)) (hn : 9 < nL) (ho : okp a8 = true) (kk : G own b nL r d Q (pc + 2) (a0 :: a1 :: a2 :: a3 :: a4 :: a5 :: a6 :: a7 :: a8 :: some (.null) :: t) st v L) : G own b nL r d Q pc (a0 :: a1 :: a2 :: a3 :: a4 :: a5 :: a6 :: a7 :: a8 :: o :: t) (.null :: st) v L := g_astoreN_w (i := 9) hd hn (okpS (i := 8) (a0 := a8) rfl ho) kk
theorem g_lstore9 {x : Int64} {a0 a1 a2 a3 a4 a5 a6 a7 a8 : Option Value} {t : List (Option Value)} {o o2 : Option Value} (hd : decode b pc = .ok (.lstore 9, 2)) (hn : 9 + 1 < nL) (ho : okp a8 = true) (kk : G own b nL r d Q (pc + 2) (a0 :: a1 :: a2 :: a3 :: a4 :: a5 :: a6 :: a7 :: a8 :: some (.long x) :: none :: t) st v L) : G own b nL r d Q pc (a0 :: a1 :: a2 :: a3 :: a4 :: a5 :: a6 :: a7 :: a8 :: o :: o2 :: t) (.long x :: st) v L := g_lstore_w (i := 9) hd hn (okpS (i := 8) (a0 := a8) rfl ho) kk
theorem g_iinc9 {x : Int32} {a0 a1 a2 a3 a4 a5 a6 a7 a8 : Option Value} {t : List (Option Value)} {n : Int} (y : Int32) (hd : decode b pc = .ok (.iinc 9 n, 3)) (hy : x + Int32.ofInt n = y) (hn : 9 < nL) (ho : okp a8 = true) (kk : G own b nL r d Q (pc + 3) (a0 :: a1 :: a2 :: a3 :: a4 :: a5 :: a6 :: a7 :: a8 :: some (.int y) :: t) st v L) : G own b nL r d Q pc (a0 :: a1 :: a2 :: a3 :: a4 :: a5 :: a6 :: a7 :: a8 :: some (.int x) :: t) st v L := g_iinc_w (i := 9) y hd rfl hy hn (okpS (i := 8) (a0 := a8) rfl ho) kk
theorem g_iload10 {x : Int32} {a0 a1 a2 a3 a4 a5 a6 a7 a8 a9 : Option Value} {t : List (Option Value)} (hd : decode b pc = .ok (.iload 10, 2)) (kk : G own b nL r d Q (pc + 2) (a0 :: a1 :: a2 :: a3 :: a4 :: a5 :: a6 :: a7 :: a8 :: a9 :: some (.int x) :: t) (.int x :: st) v L) : G own b nL r d Q pc (a0 :: a1 :: a2 :: a3 :: a4 :: a5 :: a6 :: a7 :: a8 :: a9 :: some (.int x) :: t) st v L := g_iload_w (i := 10) hd rfl kk
theorem g_lload10 {x : Int64} {a0 a1 a2 a3 a4 a5 a6 a7 a8 a9 : Option Value} {t : List (Option Value)} (hd : decode b pc = .ok (.lload 10, 2)) (kk : G own b nL r d Q (pc + 2) (a0 :: a1 :: a2 :: a3 :: a4 :: a5 :: a6 :: a7 :: a8 :: a9 :: some (.long x) :: t) (.long x :: st) v L) : G own b nL r d Q pc (a0 :: a1 :: a2 :: a3 :: a4 :: a5 :: a6 :: a7 :: a8 :: a9 :: some (.long x) :: t) st v L := g_lload_w (i := 10) hd rfl kk
theorem g_aload10 {x : Nat} {a0 a1 a2 a3 a4 a5 a6 a7 a8 a9 : Option Value} {t : List (Option Value)} (hd : decode b pc = .ok (.aload 10, 2)) (kk : G own b nL r d Q (pc + 2) (a0 :: a1 :: a2 :: a3 :: a4 :: a5 :: a6 :: a7 :: a8 :: a9 :: some (.ref x) :: t) (.ref x :: st) v L) : G own b nL r d Q pc (a0 :: a1 :: a2 :: a3 :: a4 :: a5 :: a6 :: a7 :: a8 :: a9 :: some (.ref x) :: t) st v L := g_aload_w (i := 10) hd rfl kk
theorem g_aloadN10  {a0 a1 a2 a3 a4 a5 a6 a7 a8 a9 : Option Value} {t : List (Option Value)} (hd : decode b pc = .ok (.aload 10, 2)) (kk : G own b nL r d Q (pc + 2) (a0 :: a1 :: a2 :: a3 :: a4 :: a5 :: a6 :: a7 :: a8 :: a9 :: some (.null) :: t) (.null :: st) v L) : G own b nL r d Q pc (a0 :: a1 :: a2 :: a3 :: a4 :: a5 :: a6 :: a7 :: a8 :: a9 :: some (.null) :: t) st v L := g_aloadN_w (i := 10) hd rfl kk
theorem g_istore10 {x : Int32} {a0 a1 a2 a3 a4 a5 a6 a7 a8 a9 : Option Value} {t : List (Option Value)} {o : Option Value} (hd : decode b pc = .ok (.istore 10, 2)) (hn : 10 < nL) (ho : okp a9 = true) (kk : G own b nL r d Q (pc + 2) (a0 :: a1 :: a2 :: a3 :: a4 :: a5 :: a6 :: a7 :: a8 :: a9 :: some (.int x) :: t) st v L) : G own b nL r d Q pc (a0 :: a1 :: a2 :: a3 :: a4 :: a5 :: a6 :: a7 :: a8 :: a9 :: o :: t) (.int x :: st) v L := g_istore_w (i := 10) hd hn (okpS (i := 9) (a0 := a9) rfl ho) kk
theorem g_astore10 {x : Nat} {a0 a1 a2 a3 a4 a5 a6 a7 a8 a9 : Option Value} {t : List (Option Value)} {o : Option Value} (hd : decode b pc = .ok (.astore 10, 2)) (hn : 10 < nL) (ho : okp a9 = true) (kk : G own b nL r d Q (pc + 2) (a0 :: a1 :: a2 :: a3 :: a4 :: a5 :: a6 :: a7 :: a8 :: a9 :: some (.ref x) :: t) st v L) : G own b nL r d Q pc (a0 :: a1 :: a2 :: a3 :: a4 :: a5 :: a6 :: a7 :: a8 :: a9 :: o :: t) (.ref x :: st) v L := g_astore_w (i := 10) hd hn (okpS (i := 9) (a0 := a9) rfl ho) kk
theorem g_astoreN10  {a0 a1 a2 a3 a4 a5 a6 a7 a8 a9 : Option Value} {t : List (Option Value)} {o : Option Value} (hd : decode b pc = .ok (.astore 10, 2)) (hn : 10 < nL) (ho : okp a9 = true) (kk : G own b nL r d Q (pc + 2) (a0 :: a1 :: a2 :: a3 :: a4 :: a5 :: a6 :: a7 :: a8 :: a9 :: some (.null) :: t) st v L) : G own b nL r d Q pc (a0 :: a1 :: a2 :: a3 :: a4 :: a5 :: a6 :: a7 :: a8 :: a9 :: o :: t) (.null :: st) v L := g_astoreN_w (i := 10) hd hn (okpS (i := 9) (a0 := a9) rfl ho) kk
theorem g_lstore10 {x : Int64} {a0 a1 a2 a3 a4 a5 a6 a7 a8 a9 : Option Value} {t : List (Option Value)} {o o2 : Option Value} (hd : decode b pc = .ok (.lstore 10, 2)) (hn : 10 + 1 < nL) (ho : okp a9 = true) (kk : G own b nL r d Q (pc + 2) (a0 :: a1 :: a2 :: a3 :: a4 :: a5 :: a6 :: a7 :: a8 :: a9 :: some (.long x) :: none :: t) st v L) : G own b nL r d Q pc (a0 :: a1 :: a2 :: a3 :: a4 :: a5 :: a6 :: a7 :: a8 :: a9 :: o :: o2 :: t) (.long x :: st) v L := g_lstore_w (i := 10) hd hn (okpS (i := 9) (a0 := a9) rfl ho) kk
theorem g_iinc10 {x : Int32} {a0 a1 a2 a3 a4 a5 a6 a7 a8 a9 : Option Value} {t : List (Option Value)} {n : Int} (y : Int32) (hd : decode b pc = .ok (.iinc 10 n, 3)) (hy : x + Int32.ofInt n = y) (hn : 10 < nL) (ho : okp a9 = true) (kk : G own b nL r d Q (pc + 3) (a0 :: a1 :: a2 :: a3 :: a4 :: a5 :: a6 :: a7 :: a8 :: a9 :: some (.int y) :: t) st v L) : G own b nL r d Q pc (a0 :: a1 :: a2 :: a3 :: a4 :: a5 :: a6 :: a7 :: a8 :: a9 :: some (.int x) :: t) st v L := g_iinc_w (i := 10) y hd rfl hy hn (okpS (i := 9) (a0 := a9) rfl ho) kk
theorem g_iload11 {x : Int32} {a0 a1 a2 a3 a4 a5 a6 a7 a8 a9 a10 : Option Value} {t : List (Option Value)} (hd : decode b pc = .ok (.iload 11, 2)) (kk : G own b nL r d Q (pc + 2) (a0 :: a1 :: a2 :: a3 :: a4 :: a5 :: a6 :: a7 :: a8 :: a9 :: a10 :: some (.int x) :: t) (.int x :: st) v L) : G own b nL r d Q pc (a0 :: a1 :: a2 :: a3 :: a4 :: a5 :: a6 :: a7 :: a8 :: a9 :: a10 :: some (.int x) :: t) st v L := g_iload_w (i := 11) hd rfl kk
theorem g_lload11 {x : Int64} {a0 a1 a2 a3 a4 a5 a6 a7 a8 a9 a10 : Option Value} {t : List (Option Value)} (hd : decode b pc = .ok (.lload 11, 2)) (kk : G own b nL r d Q (pc + 2) (a0 :: a1 :: a2 :: a3 :: a4 :: a5 :: a6 :: a7 :: a8 :: a9 :: a10 :: some (.long x) :: t) (.long x :: st) v L) : G own b nL r d Q pc (a0 :: a1 :: a2 :: a3 :: a4 :: a5 :: a6 :: a7 :: a8 :: a9 :: a10 :: some (.long x) :: t) st v L := g_lload_w (i := 11) hd rfl kk
theorem g_aload11 {x : Nat} {a0 a1 a2 a3 a4 a5 a6 a7 a8 a9 a10 : Option Value} {t : List (Option Value)} (hd : decode b pc = .ok (.aload 11, 2)) (kk : G own b nL r d Q (pc + 2) (a0 :: a1 :: a2 :: a3 :: a4 :: a5 :: a6 :: a7 :: a8 :: a9 :: a10 :: some (.ref x) :: t) (.ref x :: st) v L) : G own b nL r d Q pc (a0 :: a1 :: a2 :: a3 :: a4 :: a5 :: a6 :: a7 :: a8 :: a9 :: a10 :: some (.ref x) :: t) st v L := g_aload_w (i := 11) hd rfl kk
theorem g_aloadN11  {a0 a1 a2 a3 a4 a5 a6 a7 a8 a9 a10 : Option Value} {t : List (Option Value)} (hd : decode b pc = .ok (.aload 11, 2)) (kk : G own b nL r d Q (pc + 2) (a0 :: a1 :: a2 :: a3 :: a4 :: a5 :: a6 :: a7 :: a8 :: a9 :: a10 :: some (.null) :: t) (.null :: st) v L) : G own b nL r d Q pc (a0 :: a1 :: a2 :: a3 :: a4 :: a5 :: a6 :: a7 :: a8 :: a9 :: a10 :: some (.null) :: t) st v L := g_aloadN_w (i := 11) hd rfl kk
theorem g_istore11 {x : Int32} {a0 a1 a2 a3 a4 a5 a6 a7 a8 a9 a10 : Option Value} {t : List (Option Value)} {o : Option Value} (hd : decode b pc = .ok (.istore 11, 2)) (hn : 11 < nL) (ho : okp a10 = true) (kk : G own b nL r d Q (pc + 2) (a0 :: a1 :: a2 :: a3 :: a4 :: a5 :: a6 :: a7 :: a8 :: a9 :: a10 :: some (.int x) :: t) st v L) : G own b nL r d Q pc (a0 :: a1 :: a2 :: a3 :: a4 :: a5 :: a6 :: a7 :: a8 :: a9 :: a10 :: o :: t) (.int x :: st) v L := g_istore_w (i := 11) hd hn (okpS (i := 10) (a0 := a10) rfl ho) kk
theorem g_astore11 {x : Nat} {a0 a1 a2 a3 a4 a5 a6 a7 a8 a9 a10 : Option Value} {t : List (Option Value)} {o : Option Value} (hd : decode b pc = .ok (.astore 11, 2)) (hn : 11 < nL) (ho : okp a10 = true) (kk : G own b nL r d Q (pc + 2) (a0 :: a1 :: a2 :: a3 :: a4 :: a5 :: a6 :: a7 :: a8 :: a9 :: a10 :: some (.ref x) :: t) st v L) : G own b nL r d Q pc (a0 :: a1 :: a2 :: a3 :: a4 :: a5 :: a6 :: a7 :: a8 :: a9 :: a10 :: o :: t) (.ref x :: st) v L := g_astore_w (i := 11) hd hn (okpS (i := 10) (a0 := a10) rfl ho) kk
theorem g_astoreN11  {a0 a1 a2 a3 a4 a5 a6 a7 a8 a9 a10 : Option Value} {t : List (Option Value)} {o : Option Value} (hd : decode b pc = .ok (.astore 11, 2)) (hn : 11 < nL) (ho : okp a10 = true) (kk : G own b nL r d Q (pc + 2) (a0 :: a1 :: a2 :: a3 :: a4 :: a5 :: a6 :: a7 :: a8 :: a9 :: a10 :: some (.null) :: t) st v L) : G own b nL r d Q pc (a0 :: a1 :: a2 :: a3 :: a4 :: a5 :: a6 :: a7 :: a8 :: a9 :: a10 :: o :: t) (.null :: st) v L := g_astoreN_w (i := 11) hd hn (okpS (i := 10) (a0 := a10) rfl ho) kk
theorem g_lstore11 {x : Int64} {a0 a1 a2 a3 a4 a5 a6 a7 a8 a9 a10 : Option Value} {t : List (Option Value)} {o o2 : Option Value} (hd : decode b pc = .ok (.lstore 11, 2)) (hn : 11 + 1 < nL) (ho : okp a10 = true) (kk : G own b nL r d Q (pc + 2) (a0 :: a1 :: a2 :: a3 :: a4 :: a5 :: a6 :: a7 :: a8 :: a9 :: a10 :: some (.long x) :: none :: t) st v L) : G own b nL r d Q pc (a0 :: a1 :: a2 :: a3 :: a4 :: a5 :: a6 :: a7 :: a8 :: a9 :: a10 :: o :: o2 :: t) (.long x :: st) v L := g_lstore_w (i := 11) hd hn (okpS (i := 10) (a0 := a10) rfl ho) kk
theorem g_iinc11 {x : Int32} {a0 a1 a2 a3 a4 a5 a6 a7 a8 a9 a10 : Option Value} {t : List (Option Value)} {n : Int} (y : Int32) (hd : decode b pc = .ok (.iinc 11 n, 3)) (hy : x + Int32.ofInt n = y) (hn : 11 < nL) (ho : okp a10 = true) (kk : G own b nL r d Q (pc + 3) (a0 :: a1 :: a2 :: a3 :: a4 :: a5 :: a6 :: a7 :: a8 :: a9 :: a10 :: some (.int y) :: t) st v L) : G own b nL r d Q pc (a0 :: a1 :: a2 :: a3 :: a4 :: a5 :: a6 :: a7 :: a8 :: a9 :: a10 :: some (.int x) :: t) st v L := g_iinc_w (i := 11) y hd rfl hy hn (okpS (i := 10) (a0 := a10) rfl ho) kk
theorem g_iload12 {x : Int32} {a0 a1 a2 a3 a4 a5 a6 a7 a8 a9 a10 a11 : Option Value} {t : List (Option Value)} (hd : decode b pc = .ok (.iload 12, 2)) (kk : G own b nL r d Q (pc + 2) (a0 :: a1 :: a2 :: a3 :: a4 :: a5 :: a6 :: a7 :: a8 :: a9 :: a10 :: a11 :: some (.int x) :: t) (.int x :: st) v L) : G own b nL r d Q pc (a0 :: a1 :: a2 :: a3 :: a4 :: a5 :: a6 :: a7 :: a8 :: a9 :: a10 :: a11 :: some (.int x) :: t) st v L := g_iload_w (i := 12) hd rfl kk
theorem g_lload12 {x : Int64} {a0 a1 a2 a3 a4 a5 a6 a7 a8 a9 a10 a11 : Option Value} {t : List (Option Value)} (hd : decode b pc = .ok (.lload 12, 2)) (kk : G own b nL r d Q (pc + 2) (a0 :: a1 :: a2 :: a3 :: a4 :: a5 :: a6 :: a7 :: a8 :: a9 :: a10 :: a11 :: some (.long x) :: t) (.long x :: st) v L) : G own b nL r d Q pc (a0 :: a1 :: a2 :: a3 :: a4 :: a5 :: a6 :: a7 :: a8 :: a9 :: a10 :: a11 :: some (.long x) :: t) st v L := g_lload_w (i := 12) hd rfl kk
theorem g_aload12 {x : Nat} {a0 a1 a2 a3 a4 a5 a6 a7 a8 a9 a10 a11 : Option Value} {t : List (Option Value)} (hd : decode b pc = .ok (.aload 12, 2)) (kk : G own b nL r d Q (pc + 2) (a0 :: a1 :: a2 :: a3 :: a4 :: a5 :: a6 :: a7 :: a8 :: a9 :: a10 :: a11 :: some (.ref x) :: t) (.ref x :: st) v L) : G own b nL r d Q pc (a0 :: a1 :: a2 :: a3 :: a4 :: a5 :: a6 :: a7 :: a8 :: a9 :: a10 :: a11 :: some (.ref x) :: t) st v L := g_aload_w (i := 12) hd rfl kk
theorem g_aloadN12  {a0 a1 a2 a3 a4 a5 a6 a7 a8 a9 a10 a11 : Option Value} {t : List (Option Value)} (hd : decode b pc = .ok (.aload 12, 2)) (kk : G own b nL r d Q (pc + 2) (a0 :: a1 :: a2 :: a3 :: a4 :: a5 :: a6 :: a7 :: a8 :: a9 :: a10 :: a11 :: some (.null) :: t) (.null :: st) v L) : G own b nL r d Q pc (a0 :: a1 :: a2 :: a3 :: a4 :: a5 :: a6 :: a7 :: a8 :: a9 :: a10 :: a11 :: some (.null) :: t) st v L := g_aloadN_w (i := 12) hd rfl kk
theorem g_istore12 {x : Int32} {a0 a1 a2 a3 a4 a5 a6 a7 a8 a9 a10 a11 : Option Value} {t : List (Option Value)} {o : Option Value} (hd : decode b pc = .ok (.istore 12, 2)) (hn : 12 < nL) (ho : okp a11 = true) (kk : G own b nL r d Q (pc + 2) (a0 :: a1 :: a2 :: a3 :: a4 :: a5 :: a6 :: a7 :: a8 :: a9 :: a10 :: a11 :: some (.int x) :: t) st v L) : G own b nL r d Q pc (a0 :: a1 :: a2 :: a3 :: a4 :: a5 :: a6 :: a7 :: a8 :: a9 :: a10 :: a11 :: o :: t) (.int x :: st) v L := g_istore_w (i := 12) hd hn (okpS (i := 11) (a0 := a11) rfl ho) kk
theorem g_astore12 {x : Nat} {a0 a1 a2 a3 a4 a5 a6 a7 a8 a9 a10 a11 : Option Value} {t : List (Option Value)} {o : Option Value} (hd : decode b pc = .ok (.astore 12, 2)) (hn : 12 < nL) (ho : okp a11 = true) (kk : G own b nL r d Q (pc + 2) (a0 :: a1 :: a2 :: a3 :: a4 :: a5 :: a6 :: a7 :: a8 :: a9 :: a10 :: a11 :: some (.ref x) :: t) st v L) : G own b nL r d Q pc (a0 :: a1 :: a2 :: a3 :: a4 :: a5 :: a6 :: a7 :: a8 :: a9 :: a10 :: a11 :: o :: t) (.ref x :: st) v L := g_astore_w (i := 12) hd hn (okpS (i := 11) (a0 := a11) rfl ho) kk
theorem g_astoreN12  {a0 a1 a2 a3 a4 a5 a6 a7 a8 a9 a10 a11 : Option Value} {t : List (Option Value)} {o : Option Value} (hd : decode b pc = .ok (.astore 12, 2)) (hn : 12 < nL) (ho : okp a11 = true) (kk : G own b nL r d Q (pc + 2) (a0 :: a1 :: a2 :: a3 :: a4 :: a5 :: a6 :: a7 :: a8 :: a9 :: a10 :: a11 :: some (.null) :: t) st v L) : G own b nL r d Q pc (a0 :: a1 :: a2 :: a3 :: a4 :: a5 :: a6 :: a7 :: a8 :: a9 :: a10 :: a11 :: o :: t) (.null :: st) v L := g_astoreN_w (i := 12) hd hn (okpS (i := 11) (a0 := a11) rfl ho) kk
theorem g_lstore12 {x : Int64} {a0 a1 a2 a3 a4 a5 a6 a7 a8 a9 a10 a11 : Option Value} {t : List (Option Value)} {o o2 : Option Value} (hd : decode b pc = .ok (.lstore 12, 2)) (hn : 12 + 1 < nL) (ho : okp a11 = true) (kk : G own b nL r d Q (pc + 2) (a0 :: a1 :: a2 :: a3 :: a4 :: a5 :: a6 :: a7 :: a8 :: a9 :: a10 :: a11 :: some (.long x) :: none :: t) st v L) : G own b nL r d Q pc (a0 :: a1 :: a2 :: a3 :: a4 :: a5 :: a6 :: a7 :: a8 :: a9 :: a10 :: a11 :: o :: o2 :: t) (.long x :: st) v L := g_lstore_w (i := 12) hd hn (okpS (i := 11) (a0 := a11) rfl ho) kk
theorem g_iinc12 {x : Int32} {a0 a1 a2 a3 a4 a5 a6 a7 a8 a9 a10 a11 : Option Value} {t : List (Option Value)} {n : Int} (y : Int32) (hd : decode b pc = .ok (.iinc 12 n, 3)) (hy : x + Int32.ofInt n = y) (hn : 12 < nL) (ho : okp a11 = true) (kk : G own b nL r d Q (pc + 3) (a0 :: a1 :: a2 :: a3 :: a4 :: a5 :: a6 :: a7 :: a8 :: a9 :: a10 :: a11 :: some (.int y) :: t) st v L) : G own b nL r d Q pc (a0 :: a1 :: a2 :: a3 :: a4 :: a5 :: a6 :: a7 :: a8 :: a9 :: a10 :: a11 :: some (.int x) :: t) st v L := g_iinc_w (i := 12) y hd rfl hy hn (okpS (i := 11) (a0 := a11) rfl ho) kk
theorem g_iload13 {x : Int32} {a0 a1 a2 a3 a4 a5 a6 a7 a8 a9 a10 a11 a12 : Option Value} {t : List (Option Value)} (hd : decode b pc = .ok (.iload 13, 2)) (kk : G own b nL r d Q (pc + 2) (a0 :: a1 :: a2 :: a3 :: a4 :: a5 :: a6 :: a7 :: a8 :: a9 :: a10 :: a11 :: a12 :: some (.int x) :: t) (.int x :: st) v L) : G own b nL r d Q pc (a0 :: a1 :: a2 :: a3 :: a4 :: a5 :: a6 :: a7 :: a8 :: a9 :: a10 :: a11 :: a12 :: some (.int x) :: t) st v L := g_iload_w (i := 13) hd rfl kk
theorem g_lload13 {x : Int64} {a0 a1 a2 a3 a4 a5 a6 a7 a8 a9 a10 a11 a12 : Option Value} {t : List (Option Value)} (hd : decode b pc = .ok (.lload 13, 2)) (kk : G own b nL r d Q (pc + 2) (a0 :: a1 :: a2 :: a3 :: a4 :: a5 :: a6 :: a7 :: a8 :: a9 :: a10 :: a11 :: a12 :: some (.long x) :: t) (.long x :: st) v L) : G own b nL r d Q pc (a0 :: a1 :: a2 :: a3 :: a4 :: a5 :: a6 :: a7 :: a8 :: a9 :: a10 :: a11 :: a12 :: some (.long x) :: t) st v L := g_lload_w (i := 13) hd rfl kk
theorem g_aload13 {x : Nat} {a0 a1 a2 a3 a4 a5 a6 a7 a8 a9 a10 a11 a12 : Option Value} {t : List (Option Value)} (hd : decode b pc = .ok (.aload 13, 2)) (kk : G own b nL r d Q (pc + 2) (a0 :: a1 :: a2 :: a3 :: a4 :: a5 :: a6 :: a7 :: a8 :: a9 :: a10 :: a11 :: a12 :: some (.ref x) :: t) (.ref x :: st) v L) : G own b nL r d Q pc (a0 :: a1 :: a2 :: a3 :: a4 :: a5 :: a6 :: a7 :: a8 :: a9 :: a10 :: a11 :: a12 :: some (.ref x) :: t) st v L := g_aload_w (i := 13) hd rfl kk
theorem g_aloadN13  {a0 a1 a2 a3 a4 a5 a6 a7 a8 a9 a10 a11 a12 : Option Value} {t : List (Option Value)} (hd : decode b pc = .ok (.aload 13, 2)) (kk : G own b nL r d Q (pc + 2) (a0 :: a1 :: a2 :: a3 :: a4 :: a5 :: a6 :: a7 :: a8 :: a9 :: a10 :: a11 :: a12 :: some (.null) :: t) (.null :: st) v L) : G own b nL r d Q pc (a0 :: a1 :: a2 :: a3 :: a4 :: a5 :: a6 :: a7 :: a8 :: a9 :: a10 :: a11 :: a12 :: some (.null) :: t) st v L := g_aloadN_w (i := 13) hd rfl kk
theorem g_istore13 {x : Int32} {a0 a1 a2 a3 a4 a5 a6 a7 a8 a9 a10 a11 a12 : Option Value} {t : List (Option Value)} {o : Option Value} (hd : decode b pc = .ok (.istore 13, 2)) (hn : 13 < nL) (ho : okp a12 = true) (kk : G own b nL r d Q (pc + 2) (a0 :: a1 :: a2 :: a3 :: a4 :: a5 :: a6 :: a7 :: a8 :: a9 :: a10 :: a11 :: a12 :: some (.int x) :: t) st v L) : G own b nL r d Q pc (a0 :: a1 :: a2 :: a3 :: a4 :: a5 :: a6 :: a7 :: a8 :: a9 :: a10 :: a11 :: a12 :: o :: t) (.int x :: st) v L := g_istore_w (i := 13) hd hn (okpS (i := 12) (a0 := a12) rfl ho) kk
theorem g_astore13 {x : Nat} {a0 a1 a2 a3 a4 a5 a6 a7 a8 a9 a10 a11 a12 : Option Value} {t : List (Option Value)} {o : Option Value} (hd : decode b pc = .ok (.astore 13, 2)) (hn : 13 < nL) (ho : okp a12 = true) (kk : G own b nL r d Q (pc + 2) (a0 :: a1 :: a2 :: a3 :: a4 :: a5 :: a6 :: a7 :: a8 :: a9 :: a10 :: a11 :: a12 :: some (.ref x) :: t) st v L) : G own b nL r d Q pc (a0 :: a1 :: a2 :: a3 :: a4 :: a5 :: a6 :: a7 :: a8 :: a9 :: a10 :: a11 :: a12 :: o :: t) (.ref x :: st) v L := g_astore_w (i := 13) hd hn (okpS (i := 12) (a0 := a12) rfl ho) kk
theorem g_astoreN13  {a0 a1 a2 a3 a4 a5 a6 a7 a8 a9 a10 a11 a12 : Option Value} {t : List (Option Value)} {o : Option Value} (hd : decode b pc = .ok (.astore 13, 2)) (hn : 13 < nL) (ho : okp a12 = true) (kk : G own b nL r d Q (pc + 2) (a0 :: a1 :: a2 :: a3 :: a4 :: a5 :: a6 :: a7 :: a8 :: a9 :: a10 :: a11 :: a12 :: some (.null) :: t) st v L) : G own b nL r d Q pc (a0 :: a1 :: a2 :: a3 :: a4 :: a5 :: a6 :: a7 :: a8 :: a9 :: a10 :: a11 :: a12 :: o :: t) (.null :: st) v L := g_astoreN_w (i := 13) hd hn (okpS (i := 12) (a0 := a12) rfl ho) kk
theorem g_lstore13 {x : Int64} {a0 a1 a2 a3 a4 a5 a6 a7 a8 a9 a10 a11 a12 : Option Value} {t : List (Option Value)} {o o2 : Option Value} (hd : decode b pc = .ok (.lstore 13, 2)) (hn : 13 + 1 < nL) (ho : okp a12 = true) (kk : G own b nL r d Q (pc + 2) (a0 :: a1 :: a2 :: a3 :: a4 :: a5 :: a6 :: a7 :: a8 :: a9 :: a10 :: a11 :: a12 :: some (.long x) :: none :: t) st v L) : G own b nL r d Q pc (a0 :: a1 :: a2 :: a3 :: a4 :: a5 :: a6 :: a7 :: a8 :: a9 :: a10 :: a11 :: a12 :: o :: o2 :: t) (.long x :: st) v L := g_lstore_w (i := 13) hd hn (okpS (i := 12) (a0 := a12) rfl ho) kk
theorem g_iinc13 {x : Int32} {a0 a1 a2 a3 a4 a5 a6 a7 a8 a9 a10 a11 a12 : Option Value} {t : List (Option Value)} {n : Int} (y : Int32) (hd : decode b pc = .ok (.iinc 13 n, 3)) (hy : x + Int32.ofInt n = y) (hn : 13 < nL) (ho : okp a12 = true) (kk : G own b nL r d Q (pc + 3) (a0 :: a1 :: a2 :: a3 :: a4 :: a5 :: a6 :: a7 :: a8 :: a9 :: a10 :: a11 :: a12 :: some (.int y) :: t) st v L) : G own b nL r d Q pc (a0 :: a1 :: a2 :: a3 :: a4 :: a5 :: a6 :: a7 :: a8 :: a9 :: a10 :: a11 :: a12 :: some (.int x) :: t) st v L := g_iinc_w (i := 13) y hd rfl hy hn (okpS (i := 12) (a0 := a12) rfl ho) kk
end Rows11
end
section
/-- what a class's tables say -/
def Cf (ci : Nat) (C : String) (T : u_T) (N : Nat) (ty : Nat → FieldType) : Prop := vwCl[ci]? = some (C, T, N) ∧ (∀ w ∈ u_ws C T N, w ∈ lw_g) ∧ (∀ k, k < N → parseFieldDescriptor (T k).2.2.1 = some (ty k)) ∧ (∀ a, a < N → ∀ b, b < N → a ≠ b → (T a).2.1 ≠ (T b).2.1) ∧ ci < 11 ∧ nf ci = N
theorem ws_obj {ad : Nat → Nat} {cy : Nat → ClassId} {v : Mm} {L : Lm} {k ci : Nat} (hk : kd k = ci) (hc : ci < 11) : (wsW ad cy v L)[k]? = some (ad k, .inr (ci, (List.range (nf ci)).map (fval ad v L k))) := by
  subst hk
  rw [wsW_get (kd_lt (by omega))]
  unfold cellE
  rw [if_pos hc]
theorem ws_int {ad : Nat → Nat} {cy : Nat → ClassId} {v : Mm} {L : Lm} {k : Nat} (hk : kd k = 11) : (wsW ad cy v L)[k]? = some (ad k, .inl (cy 11, ln k, .inl (v k))) := by
  rw [wsW_get (kd_lt (by omega))]
  unfold cellE
  rw [hk]
  rfl
theorem ws_bool {ad : Nat → Nat} {cy : Nat → ClassId} {v : Mm} {L : Lm} {k : Nat} (hk : kd k = 12) : (wsW ad cy v L)[k]? = some (ad k, .inl (cy 12, ln k, .inl (v k))) := by
  rw [wsW_get (kd_lt (by omega))]
  unfold cellE
  rw [hk]
  rfl
theorem ws_ref {ad : Nat → Nat} {cy : Nat → ClassId} {v : Mm} {L : Lm} {k n : Nat} (hk : kd k = n) (h1 : 13 ≤ n) (h2 : n < 16) : (wsW ad cy v L)[k]? = some (ad k, .inl (cy n, ln k, .inr (.inr (.inr (.inr (fun j => some (ad (tp k j)))))))) := by
  rw [wsW_get (kd_lt (by omega))]
  unfold cellE
  rw [if_neg (by omega), if_neg (by omega), hk]
theorem fv_at {ad : Nat → Nat} {v : Mm} {L : Lm} {k n j : Nat} (hj : j < n) : ((List.range n).map (fval ad v L k))[j]? = some (fval ad v L k j) := by
  rw [List.getElem?_map, List.getElem?_range hj]
  rfl
theorem fv_set {ad : Nat → Nat} {v : Mm} {L : Lm} {k n j : Nat} {x : Int32} (hf : ft (kd k) j = 0 ∨ ft (kd k) j = 1) : ((List.range n).map (fval ad v L k)).set j (.int x) = (List.range n).map (fval ad (upd2 v k j x) L k) := by
  apply List.ext_getElem?
  intro i
  by_cases e : i = j
  · subst e
    by_cases hi : i < n
    · rw [List.getElem?_set_self (by rw [List.length_map, List.length_range]; exact hi), fv_at hi]
      unfold fval upd2
      rcases hf with h | h <;> simp [h]
    · rw [List.getElem?_eq_none (by rw [List.length_set, List.length_map, List.length_range]; omega), List.getElem?_eq_none (by rw [List.length_map, List.length_range]; omega)]
  · rw [List.getElem?_set_ne (Ne.symm e)]
    by_cases hi : i < n
    · rw [fv_at hi, fv_at hi]
      unfold fval upd2
      simp [e]
    · rw [List.getElem?_eq_none (by rw [List.length_map, List.length_range]; omega), List.getElem?_eq_none (by rw [List.length_map, List.length_range]; omega)]
theorem fv_setL {ad : Nat → Nat} {v : Mm} {L : Lm} {k n j : Nat} {x : Int64} (hf : ft (kd k) j = 3) (hu : ∀ i, i < n → i ≠ j → ft (kd k) i ≠ 3) : ((List.range n).map (fval ad v L k)).set j (.long x) = (List.range n).map (fval ad v (updl L k x) k) := by
  apply List.ext_getElem?
  intro i
  by_cases e : i = j
  · subst e
    by_cases hi : i < n
    · rw [List.getElem?_set_self (by rw [List.length_map, List.length_range]; exact hi), fv_at hi]
      unfold fval updl
      simp [hf]
    · rw [List.getElem?_eq_none (by rw [List.length_set, List.length_map, List.length_range]; omega), List.getElem?_eq_none (by rw [List.length_map, List.length_range]; omega)]
  · rw [List.getElem?_set_ne (Ne.symm e)]
    by_cases hi : i < n
    · rw [fv_at hi, fv_at hi]
      unfold fval updl
      simp [hu i hi e]
    · rw [List.getElem?_eq_none (by rw [List.length_map, List.length_range]; omega), List.getElem?_eq_none (by rw [List.length_map, List.length_range]; omega)]
theorem upd2_ne {v : Mm} {k j : Nat} {x : Int32} : ∀ i, i ≠ k → v i = upd2 v k j x i := fun i h => by funext y; unfold upd2; simp [h]
theorem updl_ne {v : Lm} {k : Nat} {x : Int64} : ∀ i, i ≠ k → v i = updl v k x i := fun i h => by unfold updl; simp [h]
theorem updA_ne {v : Mm} {k : Nat} {f : Nat → Int32} : ∀ i, i ≠ k → v i = updA v k f i := fun i h => by unfold updA; simp [h]
theorem ws_putI {ad : Nat → Nat} {cy : Nat → ClassId} {v : Mm} {L : Lm} {k ci j : Nat} {x : Int32} (hk : kd k = ci) (hc : ci < 11) (hf : ft ci j = 0 ∨ ft ci j = 1) : (wsW ad cy v L).set k (ad k, .inr (ci, ((List.range (nf ci)).map (fval ad v L k)).set j (.int x))) = wsW ad cy (upd2 v k j x) L := by
  subst hk
  rw [fv_set hf, ← wsW_set (v' := upd2 v k j x) (L' := L) (kd_lt (by omega)) upd2_ne (fun _ _ => rfl)]
  congr 2
  unfold cellE
  rw [if_pos hc]
theorem ws_putL {ad : Nat → Nat} {cy : Nat → ClassId} {v : Mm} {L : Lm} {k ci j : Nat} {x : Int64} (hk : kd k = ci) (hc : ci < 11) (hf : ft ci j = 3) (hu : ∀ i, i < nf ci → i ≠ j → ft ci i ≠ 3) : (wsW ad cy v L).set k (ad k, .inr (ci, ((List.range (nf ci)).map (fval ad v L k)).set j (.long x))) = wsW ad cy v (updl L k x) := by
  subst hk
  rw [fv_setL hf hu, ← wsW_set (v' := v) (L' := updl L k x) (kd_lt (by omega)) (fun _ _ => rfl) updl_ne]
  congr 2
  unfold cellE
  rw [if_pos hc]
theorem ws_arr {ad : Nat → Nat} {cy : Nat → ClassId} {v : Mm} {L : Lm} {k n : Nat} {f : Nat → Int32} (hk : kd k = n) (h1 : 11 ≤ n) (h2 : n < 13) : (wsW ad cy v L).set k (ad k, .inl (cy n, ln k, .inl f)) = wsW ad cy (updA v k f) L := by
  subst hk
  rw [← wsW_set (v' := updA v k f) (L' := L) (kd_lt (by omega)) updA_ne (fun _ _ => rfl)]
  congr 2
  unfold cellE
  rw [if_neg (by omega), if_pos h2]
  unfold updA
  rw [if_pos rfl]
theorem updA_upd {v : Mm} {k i : Nat} {x : Int32} : updA v k (upd (v k) i x) = upd2 v k i x := by
  funext a y
  unfold updA upd2 upd
  by_cases h : a = k
  · subst h; simp
  · simp [h]
section Rows12
variable {own : String} {b : ByteArray} {nL : Nat} {r : Option FieldType} {d : Nat} {Q : Qt} {pc : Nat} {ls : List (Option Value)} {st : List Value} {v : Mm} {L : Lm}
theorem g_getI {ci j k idx N : Nat} {C : String} {T : u_T} {ty : Nat → FieldType} (cf : Cf ci C T N ty) (hd : decode b pc = .ok (.getfield idx, 3)) (hw : Cond.fieldLink own idx (T j).1 (T j).2.1 (T j).2.2.1 ∈ lw_g) (hj : j < N) (hf : ft ci j < 2) (hk : kd k = ci) (kk : G own b nL r d Q (pc + 3) ls (.int (v k j) :: st) v L) : G own b nL r d Q pc ls (.ref k :: st) v L := by
  intro l D cy ad z p e s m args below meth c H locs lsA hC
  have hC2 := hC
  obtain ⟨hx, hb, hr, hml, hown, hts, hlk, hSx, hP, hS, hL⟩ := hC
  refine va_get (D := D) (Ts := lw_g) (v := .int (v k j)) hx hb hts cf.2.1 hown hSx.1 hP k (ws_obj hk cf.2.2.2.2.1) cf.1 j hj (hts _ hw) (fun _ h => h) ?_ hd (kk l D cy ad z p e s m args below meth c H locs lsA hC2)
  rw [fv_at (by rw [cf.2.2.2.2.2]; exact hj)]
  unfold fval
  rw [hk, if_neg (by omega), if_neg (by omega)]
theorem g_getR {ci j k idx N : Nat} {C : String} {T : u_T} {ty : Nat → FieldType} (cf : Cf ci C T N ty) (hd : decode b pc = .ok (.getfield idx, 3)) (hw : Cond.fieldLink own idx (T j).1 (T j).2.1 (T j).2.2.1 ∈ lw_g) (hj : j < N) (hf : ft ci j = 2) (hk : kd k = ci) (q : Nat) (hq : tp k j = q) (kk : G own b nL r d Q (pc + 3) ls (.ref q :: st) v L) : G own b nL r d Q pc ls (.ref k :: st) v L := by
  intro l D cy ad z p e s m args below meth c H locs lsA hC
  have hC2 := hC
  subst hq
  obtain ⟨hx, hb, hr, hml, hown, hts, hlk, hSx, hP, hS, hL⟩ := hC
  refine va_get (D := D) (Ts := lw_g) (v := .ref (ad (tp k j))) hx hb hts cf.2.1 hown hSx.1 hP k (ws_obj hk cf.2.2.2.2.1) cf.1 j hj (hts _ hw) (fun _ h => h) ?_ hd (kk l D cy ad z p e s m args below meth c H locs lsA hC2)
  rw [fv_at (by rw [cf.2.2.2.2.2]; exact hj)]
  unfold fval
  rw [hk, if_pos hf]
theorem g_getL {ci j k idx N : Nat} {C : String} {T : u_T} {ty : Nat → FieldType} (cf : Cf ci C T N ty) (hd : decode b pc = .ok (.getfield idx, 3)) (hw : Cond.fieldLink own idx (T j).1 (T j).2.1 (T j).2.2.1 ∈ lw_g) (hj : j < N) (hf : ft ci j = 3) (hk : kd k = ci) (kk : G own b nL r d Q (pc + 3) ls (.long (L k) :: st) v L) : G own b nL r d Q pc ls (.ref k :: st) v L := by
  intro l D cy ad z p e s m args below meth c H locs lsA hC
  have hC2 := hC
  obtain ⟨hx, hb, hr, hml, hown, hts, hlk, hSx, hP, hS, hL⟩ := hC
  refine va_get (D := D) (Ts := lw_g) (v := .long (L k)) hx hb hts cf.2.1 hown hSx.1 hP k (ws_obj hk cf.2.2.2.2.1) cf.1 j hj (hts _ hw) (fun _ h => h) ?_ hd (kk l D cy ad z p e s m args below meth c H locs lsA hC2)
  rw [fv_at (by rw [cf.2.2.2.2.2]; exact hj)]
  unfold fval
  rw [hk, if_neg (by omega), if_pos hf]
theorem g_putI {ci j k idx N : Nat} {C : String} {T : u_T} {ty : Nat → FieldType} {x : Int32} (cf : Cf ci C T N ty) (hd : decode b pc = .ok (.putfield idx, 3)) (hw : Cond.fieldLink own idx (T j).1 (T j).2.1 (T j).2.2.1 ∈ lw_g) (hj : j < N) (hfin : (T j).2.2.2 = false) (hty : ty j = .int) (hf : ft ci j = 0) (hk : kd k = ci) (kk : G own b nL r d Q (pc + 3) ls st (upd2 v k j x) L) : G own b nL r d Q pc ls (.int x :: .ref k :: st) v L := by
  intro l D cy ad z p e s m args below meth c H locs lsA hC
  obtain ⟨hx, hb, hr, hml, hown, hts, hlk, hSx, hP, hS, hL⟩ := hC
  refine va_put (D := D) (Ts := lw_g) (ty := .int) (v := .int x) hx hb hts cf.2.1 ty cf.2.2.1 cf.2.2.2.1 hown hSx.1 hP (hSx.2.1.D cy v L) hS k (ws_obj hk cf.2.2.2.2.1) cf.1 j hj (hts _ hw) (fun _ h => h) hfin (by rw [cf.2.2.1 j hj, hty]) rfl rfl (by rw [List.length_map, List.length_range, cf.2.2.2.2.2]; exact hj) hd (fun H1 locs1 hP1 hD1 hS1 => ?_)
  rw [ws_putI hk cf.2.2.2.2.1 (Or.inl hf)] at hP1
  exact kk l D cy ad z p e s m args below meth c H1 locs1 lsA ⟨hx, hb, hr, hml, hown, hts, hlk, hSx, hP1, hS1, hL⟩
theorem g_putZ {ci j k idx N : Nat} {C : String} {T : u_T} {ty : Nat → FieldType} {x : Int32} (cf : Cf ci C T N ty) (hd : decode b pc = .ok (.putfield idx, 3)) (hw : Cond.fieldLink own idx (T j).1 (T j).2.1 (T j).2.2.1 ∈ lw_g) (hj : j < N) (hfin : (T j).2.2.2 = false) (hty : ty j = .boolean) (hf : ft ci j = 1) (hk : kd k = ci) (h01 : x = 0 ∨ x = 1) (kk : G own b nL r d Q (pc + 3) ls st (upd2 v k j x) L) : G own b nL r d Q pc ls (.int x :: .ref k :: st) v L := by
  intro l D cy ad z p e s m args below meth c H locs lsA hC
  obtain ⟨hx, hb, hr, hml, hown, hts, hlk, hSx, hP, hS, hL⟩ := hC
  refine va_put (D := D) (Ts := lw_g) (ty := .boolean) (v := .int x) hx hb hts cf.2.1 ty cf.2.2.1 cf.2.2.2.1 hown hSx.1 hP (hSx.2.1.D cy v L) hS k (ws_obj hk cf.2.2.2.2.1) cf.1 j hj (hts _ hw) (fun _ h => h) hfin (by rw [cf.2.2.1 j hj, hty]) (by rcases h01 with h | h <;> rw [h] <;> rfl) (by rcases h01 with h | h <;> rw [h] <;> rfl) (by rw [List.length_map, List.length_range, cf.2.2.2.2.2]; exact hj) hd (fun H1 locs1 hP1 hD1 hS1 => ?_)
  rw [ws_putI hk cf.2.2.2.2.1 (Or.inr hf)] at hP1
  exact kk l D cy ad z p e s m args below meth c H1 locs1 lsA ⟨hx, hb, hr, hml, hown, hts, hlk, hSx, hP1, hS1, hL⟩
theorem g_putL {ci j k idx N : Nat} {C : String} {T : u_T} {ty : Nat → FieldType} {x : Int64} (cf : Cf ci C T N ty) (hd : decode b pc = .ok (.putfield idx, 3)) (hw : Cond.fieldLink own idx (T j).1 (T j).2.1 (T j).2.2.1 ∈ lw_g) (hj : j < N) (hfin : (T j).2.2.2 = false) (hty : ty j = .long) (hf : ft ci j = 3) (hu : ∀ i, i < nf ci → i ≠ j → ft ci i ≠ 3) (hk : kd k = ci) (kk : G own b nL r d Q (pc + 3) ls st v (updl L k x)) : G own b nL r d Q pc ls (.long x :: .ref k :: st) v L := by
  intro l D cy ad z p e s m args below meth c H locs lsA hC
  obtain ⟨hx, hb, hr, hml, hown, hts, hlk, hSx, hP, hS, hL⟩ := hC
  refine va_put (D := D) (Ts := lw_g) (ty := .long) (v := .long x) hx hb hts cf.2.1 ty cf.2.2.1 cf.2.2.2.1 hown hSx.1 hP (hSx.2.1.D cy v L) hS k (ws_obj hk cf.2.2.2.2.1) cf.1 j hj (hts _ hw) (fun _ h => h) hfin (by rw [cf.2.2.1 j hj, hty]) rfl rfl (by rw [List.length_map, List.length_range, cf.2.2.2.2.2]; exact hj) hd (fun H1 locs1 hP1 hD1 hS1 => ?_)
  rw [ws_putL hk cf.2.2.2.2.1 hf hu] at hP1
  exact kk l D cy ad z p e s m args below meth c H1 locs1 lsA ⟨hx, hb, hr, hml, hown, hts, hlk, hSx, hP1, hS1, hL⟩
theorem g_iald {k : Nat} {i : Int32} (hd : decode b pc = .ok (.iaload, 1)) (hk : kd k = 11) (hin : vp_in i (ln k)) (kk : G own b nL r d Q (pc + 1) ls (.int (v k i.toNatClampNeg) :: st) v L) : G own b nL r d Q pc ls (.int i :: .ref k :: st) v L := by
  intro l D cy ad z p e s m args below meth c H locs lsA hC
  have hC2 := hC
  obtain ⟨hx, hb, hr, hml, hown, hts, hlk, hSx, hP, hS, hL⟩ := hC
  exact va_iald hx hb hSx.1 hP k 0 (ws_int hk) rfl hin hd (kk l D cy ad z p e s m args below meth c H locs lsA hC2)
theorem g_zald {k : Nat} {i : Int32} (hd : decode b pc = .ok (.baload, 1)) (hk : kd k = 12) (hin : vp_in i (ln k)) (kk : G own b nL r d Q (pc + 1) ls (.int (v k i.toNatClampNeg) :: st) v L) : G own b nL r d Q pc ls (.int i :: .ref k :: st) v L := by
  intro l D cy ad z p e s m args below meth c H locs lsA hC
  have hC2 := hC
  obtain ⟨hx, hb, hr, hml, hown, hts, hlk, hSx, hP, hS, hL⟩ := hC
  exact va_zald hx hb hSx.1 hP k 1 (ws_bool hk) rfl hin hd (kk l D cy ad z p e s m args below meth c H locs lsA hC2)
theorem g_iast {k : Nat} {i x : Int32} (hd : decode b pc = .ok (.iastore, 1)) (hk : kd k = 11) (hin : vp_in i (ln k)) (kk : G own b nL r d Q (pc + 1) ls st (upd2 v k i.toNatClampNeg x) L) : G own b nL r d Q pc ls (.int x :: .int i :: .ref k :: st) v L := by
  intro l D cy ad z p e s m args below meth c H locs lsA hC
  obtain ⟨hx, hb, hr, hml, hown, hts, hlk, hSx, hP, hS, hL⟩ := hC
  refine va_iast hx hb hSx.1 hP (hSx.2.1.D cy v L) hS k 0 (ws_int hk) rfl hin hd (fun H1 locs1 hP1 hD1 hS1 => ?_)
  rw [ws_arr hk (by decide) (by decide), updA_upd] at hP1
  exact kk l D cy ad z p e s m args below meth c H1 locs1 lsA ⟨hx, hb, hr, hml, hown, hts, hlk, hSx, hP1, hS1, hL⟩
theorem g_zast {k : Nat} {i x : Int32} (hd : decode b pc = .ok (.bastore, 1)) (hk : kd k = 12) (hin : vp_in i (ln k)) (h01 : x = 0 ∨ x = 1) (kk : G own b nL r d Q (pc + 1) ls st (upd2 v k i.toNatClampNeg x) L) : G own b nL r d Q pc ls (.int x :: .int i :: .ref k :: st) v L := by
  intro l D cy ad z p e s m args below meth c H locs lsA hC
  obtain ⟨hx, hb, hr, hml, hown, hts, hlk, hSx, hP, hS, hL⟩ := hC
  refine va_zast hx hb hSx.1 hP (hSx.2.1.D cy v L) hS k 1 (ws_bool hk) rfl hin hd (fun H1 locs1 hP1 hD1 hS1 => ?_)
  rw [show vp_nar .boolean x = x by rcases h01 with h | h <;> rw [h] <;> rfl] at hP1
  rw [ws_arr hk (by decide) (by decide), updA_upd] at hP1
  exact kk l D cy ad z p e s m args below meth c H1 locs1 lsA ⟨hx, hb, hr, hml, hown, hts, hlk, hSx, hP1, hS1, hL⟩
theorem tys_ref {cy : Nat → ClassId} {n : Nat} (h1 : 13 ≤ n) (h2 : n < 16) : ∃ C : String, (tysW cy)[n - 11]? = some (cy n, .object C) := by
  rcases (show n = 13 ∨ n = 14 ∨ n = 15 by omega) with h | h | h <;> subst h <;> exact ⟨_, rfl⟩
theorem g_aald {k n : Nat} {i : Int32} (hd : decode b pc = .ok (.aaload, 1)) (hk : kd k = n) (h1 : 13 ≤ n) (h2 : n < 16) (hin : vp_in i (ln k)) (q : Nat) (hq : tp k i.toNatClampNeg = q) (kk : G own b nL r d Q (pc + 1) ls (.ref q :: st) v L) : G own b nL r d Q pc ls (.int i :: .ref k :: st) v L := by
  intro l D cy ad z p e s m args below meth c H locs lsA hC
  have hC2 := hC
  subst hq
  obtain ⟨hx, hb, hr, hml, hown, hts, hlk, hSx, hP, hS, hL⟩ := hC
  obtain ⟨C, hC3⟩ := tys_ref (cy := cy) h1 h2
  exact va_aldq hx hb hSx.1 hP k (n - 11) (ws_ref hk h1 h2) hC3 hin hd (kk l D cy ad z p e s m args below meth c H locs lsA hC2)
theorem g_alen {k : Nat} (hd : decode b pc = .ok (.arraylength, 1)) (hk : kd k = 11) (kk : G own b nL r d Q (pc + 1) ls (.int (Int32.ofNat (ln k)) :: st) v L) : G own b nL r d Q pc ls (.ref k :: st) v L := by
  intro l D cy ad z p e s m args below meth c H locs lsA hC
  have hC2 := hC
  obtain ⟨hx, hb, hr, hml, hown, hts, hlk, hSx, hP, hS, hL⟩ := hC
  exact va_alen hx hb hSx.1 hP k 0 (ws_int hk) (ty := .int) rfl rfl hd (kk l D cy ad z p e s m args below meth c H locs lsA hC2)
/-! static arrays: places 100 to 105 -/
theorem g_gets {j idx : Nat} (hd : decode b pc = .ok (.getstatic idx, 3)) (hj : j < 6) (hw : Cond.fieldLink own idx "BroadNib" (sN j) (sD j) ∈ lw_g) (kk : G own b nL r d Q (pc + 3) ls (.ref (100 + j) :: st) v L) : G own b nL r d Q pc ls st v L := by
  intro l D cy ad z p e s m args below meth c H locs lsA hC
  have hC2 := hC
  obtain ⟨hx, hb, hr, hml, hown, hts, hlk, hSx, hP, hS, hL⟩ := hC
  exact va_gets hx hb (hSx.2.2.2.1 j hj).1 hS hown (hts _ hw) (fun _ h => h) hd (kk l D cy ad z p e s m args below meth c H locs lsA hC2)
theorem g_getsN {j idx : Nat} (hd : decode b pc = .ok (.getstatic idx, 3)) (hj : j < 6) (hw : Cond.fieldLinkNest own idx "BroadNib" (sN j) (sD j) "BroadNib" ∈ nestW) (kk : G own b nL r d Q (pc + 3) ls (.ref (100 + j) :: st) v L) : G own b nL r d Q pc ls st v L := by
  intro l D cy ad z p e s m args below meth c H locs lsA hC
  have hC2 := hC
  obtain ⟨hx, hb, hr, hml, hown, hts, hlk, hSx, hP, hS, hL⟩ := hC
  exact va_getsN hx hb (hSx.2.2.2.1 j hj).1 hS hown (va_Nw.use rfl (hSx.2.2.2.2 _ hw)) (fun _ h => h) hd (kk l D cy ad z p e s m args below meth c H locs lsA hC2)
theorem g_sld {j : Nat} {i : Int32} (hd : decode b pc = .ok (.iaload, 1)) (hj : j < 5) (hin : vp_in i (sL j)) (kk : G own b nL r d Q (pc + 1) ls (.int (svI j i.toNatClampNeg) :: st) v L) : G own b nL r d Q pc ls (.int i :: .ref (100 + j) :: st) v L := by
  intro l D cy ad z p e s m args below meth c H locs lsA hC
  have hC2 := hC
  obtain ⟨hx, hb, hr, hml, hown, hts, hlk, hSx, hP, hS, hL⟩ := hC
  have hT := (hSx.2.2.2.1 j (by omega)).2
  rw [show sT j = .int by unfold sT; rw [if_neg (by omega)]] at hT
  exact va_ti hx hb hT hS hin (v := .int (svI j i.toNatClampNeg)) (by unfold sV; rw [if_neg (by omega)]) hd (kk l D cy ad z p e s m args below meth c H locs lsA hC2)
theorem g_slld {i : Int32} (hd : decode b pc = .ok (.laload, 1)) (hin : vp_in i 13) (kk : G own b nL r d Q (pc + 1) ls (.long (svJ i.toNatClampNeg) :: st) v L) : G own b nL r d Q pc ls (.int i :: .ref 105 :: st) v L := by
  intro l D cy ad z p e s m args below meth c H locs lsA hC
  have hC2 := hC
  obtain ⟨hx, hb, hr, hml, hown, hts, hlk, hSx, hP, hS, hL⟩ := hC
  have hT := (hSx.2.2.2.1 5 (by omega)).2
  exact va_tl hx hb hT hS hin (v := .long (svJ i.toNatClampNeg)) rfl hd (kk l D cy ad z p e s m args below meth c H locs lsA hC2)
theorem g_slen {j : Nat} (hd : decode b pc = .ok (.arraylength, 1)) (hj : j < 6) (kk : G own b nL r d Q (pc + 1) ls (.int (Int32.ofNat (sL j)) :: st) v L) : G own b nL r d Q pc ls (.ref (100 + j) :: st) v L := by
  intro l D cy ad z p e s m args below meth c H locs lsA hC
  have hC2 := hC
  obtain ⟨hx, hb, hr, hml, hown, hts, hlk, hSx, hP, hS, hL⟩ := hC
  have hT := ((hSx.2.2.2.1 j hj).2).kept hS.2.1
  obtain ⟨cell, h1, h2, h3, h4, h5, h6⟩ := hT
  exact W.alen hx hb h1 h2 h5 rfl rfl hd (kk l D cy ad z p e s m args below meth c H locs lsA hC2)
end Rows12
end
section
def stc : List Value → Nat
  | [] => 0
  | x :: t => x.category + stc t
theorem stc_eq (ad : Nat → Nat) : ∀ st : List Value, ((st.map (trv ad)).map fun v => v.category).sum = stc st
  | [] => rfl
  | x :: t => by
    show (trv ad x).category + ((t.map (trv ad)).map fun v => v.category).sum = x.category + stc t
    rw [stc_eq ad t, trv_cat]
/-- the words of a call: of a static method; of a nest mate's; of an instance's own -/
def CwB (y : MethodName) (b' : ByteArray) (n' : Nat) (r' : Option FieldType) (na : Nat) : Prop := (y.cls ≠ "java/lang/invoke/MethodHandle" ∧ y.cls ≠ "java/lang/invoke/VarHandle" ∧ (parseMethodDescriptor y.desc).map (fun d => d.parameters.length) = some na) ∧ Cond.code y b' n' r' ∈ lw_g ∧ Cond.initialized y.cls ∈ lw_g ∧ n' ≤ 100
def CwS (own : String) (idx : Nat) (y : MethodName) (b' : ByteArray) (n' : Nat) (r' : Option FieldType) (na : Nat) : Prop := CwB y b' n' r' na ∧ Cond.methodLink own idx y ∈ lw_g ∧ Cond.static y ∈ lw_g
def CwN (own : String) (idx : Nat) (y : MethodName) (b' : ByteArray) (n' : Nat) (r' : Option FieldType) (na : Nat) : Prop := CwB y b' n' r' na ∧ Cond.methodLinkNest own idx y "BroadNib" ∈ nestW ∧ Cond.static y ∈ lw_g
def CwV (own : String) (idx : Nat) (y : MethodName) (b' : ByteArray) (n' : Nat) (r' : Option FieldType) (na : Nat) : Prop := CwB y b' n' r' na ∧ Cond.methodLink own idx y ∈ lw_g ∧ Cond.instanceMethod y ∈ lw_g ∧ Cond.selects y.cls y y ∈ lw_g
theorem good_code {y : MethodName} {b' : ByteArray} {n' : Nat} {r' : Option FieldType} (h : Cond.code y b' n' r' ∈ lw_g) : GoodIn lw_g (Cond.code y b' n' r' :: lw_g) := by
  intro w hw
  rcases List.mem_cons.mp hw with e | e
  · rw [e]; exact ⟨h, good_of_word (good_g h)⟩
  · exact ⟨e, good_of_word (good_g e)⟩
section Rows13
variable {own : String} {b : ByteArray} {nL : Nat} {r : Option FieldType} {d : Nat} {Q : Qt} {pc : Nat} {ls : List (Option Value)} {st : List Value} {v : Mm} {L : Lm}
/-- behind a call -/
theorem g_back {rest : List Value} {Q' : Qt} {l : Launch} {D : va_G} {cy : Nat → ClassId} {ad : Nat → Nat} {z : Nat} {p : Program} {e : Env} {s : State} {m : MethodId} {args : Array Value} {below : List Frame} {meth : Method} {c : Code} {H : Heap} {locs : List Loc} {lsA : Array Slot} {a : Array Value}
    (hC : Cx own b nL r D cy ad z p s m args meth c H locs lsA v L ls)
    (hr : va_Run p l e (Rm d) s m args below meth c H locs 0 0 0 0 (F0 m pc lsA (st.map (trv ad))) (rest.map (trv ad)) (QcW D cy ad z Q' a) (fun q => z ≤ q))
    (k : ∀ res v' L', Q' res v' L' → G own b nL r d Q (pc + 3) ls (res.toList ++ rest) v' L') : W p l e (Rm d) s m args below meth c H locs 0 0 (MQ below (QcW D cy ad z Q) args s 0 0 (fun q => z ≤ q)) (F0 m pc lsA (st.map (trv ad))) := by
  obtain ⟨hx, hb, hr, hml, hown, hts, hlk, hSx, hP, hS, hL⟩ := hC
  rename_i hr0
  intro T hT X
  obtain ⟨rv, st₀, t, T', Lx, h0, X', hLx, e1, e2, ⟨⟨res, v', L', q1, q2, q3⟩, hz, hk⟩, stp⟩ := hr0 T hT X
  cases q1
  rw [h0] at hz hk
  have hP1 : va_P D vwCl (wsW ad cy v' L') T'.heap := by rw [e1]; exact q3.2
  have hS1 : va_S (fun q => z ≤ q) s.heap T'.heap (locs ++ Lx) := by
    refine ⟨Nat.le_trans hS.1 (by rw [e1]; exact hz), fun q h1 h2 => ?_, fun q hq => ?_⟩
    · rw [e1, hk q (Nat.lt_of_lt_of_le h1 hS.1) h2]; exact hS.2.1 q h1 h2
    · rcases List.mem_append.mp hq with h | h
      · exact hS.2.2 q h
      · exact hLx q h
  obtain ⟨t2, a1, b1⟩ := k res v' L' q2 l D cy ad z p e s m args below meth c T'.heap (locs ++ Lx) lsA ⟨hx, hb, hr, hml, hown, hts, hlk, hSx, hP1, hS1, hL⟩ T' rfl X'
  refine ⟨t2, stp t2 ?_, b1⟩
  rw [List.map_append] at a1
  cases res with
  | none => exact a1
  | some x => exact a1
theorem g_pre {D : va_G} {cy : Nat → ClassId} {ad : Nat → Nat} {z : Nat} {p : Program} {s : State} {m : MethodId} {args : Array Value} {meth : Method} {c : Code} {H : Heap} {locs : List Loc} {lsA : Array Slot} (hC : Cx own b nL r D cy ad z p s m args meth c H locs lsA v L ls) : ∀ U : State, U.heap = H → s.WarmedH U.vm → Wd D cy ad z v L U := by
  obtain ⟨hx, hb, hr, hml, hown, hts, hlk, hSx, hP, hS, hL⟩ := hC
  intro U hU hW
  refine ⟨hSx.move hW (by rw [hU]; exact hS.1) (fun q h1 h2 => by rw [hU]; exact hS.2.1 q h1 h2), ?_⟩
  rw [hU]
  exact hP
theorem Rm_fit {d d' n' : Nat} (h : d' + 1 ≤ d) (hn : n' ≤ 100) : (Rm d').frames + 1 ≤ (Rm d).frames ∧ 8 + (n' + 11) + (Rm d').locals ≤ (Rm d).locals := by
  refine ⟨h, ?_⟩
  show 8 + (n' + 11) + 200 * d' ≤ 200 * d
  omega
theorem g_callS {y : MethodName} {b' : ByteArray} {n' idx na : Nat} {r' : Option FieldType} {d' : Nat} {as rest : List Value} {Q' : Qt} (hF : Fq y b' n' r' d' as v L Q') (hd : decode b pc = .ok (.invokestatic idx, 3)) (cw : CwS own idx y b' n' r' na) (hl : as.length = na) (hdd : d' + 1 ≤ d) (hst : st = as.reverse ++ rest) (hc : stc rest ≤ 8) (k : ∀ res v' L', Q' res v' L' → G own b nL r d Q (pc + 3) ls (res.toList ++ rest) v' L') : G own b nL r d Q pc ls st v L := by
  intro l D cy ad z p e s m args below meth c H locs lsA hC
  have hC2 := hC
  obtain ⟨hx, hb, hr, hml, hown, hts, hlk, hSx, hP, hS, hL⟩ := hC
  subst hst
  refine g_back hC2 (va_runS (S := ⟨hx, hb, hml, hown, hts⟩) (hF l D cy ad z) ⟨callB_of (bytes := b') (maxL := n') (ret := r') na hts (good_code cw.1.2.1) rfl rfl rfl (hts _ cw.1.2.2.1) (hts _ cw.2.1) cw.1.1 (Rm_fit hdd cw.1.2.2.2), hts _ cw.2.2⟩ ⟨Wd.blind, fun U hU hW => ⟨rfl, g_pre hC2 U hU hW⟩⟩ rfl (by rw [List.length_map]; exact hl) hL.1 (by show List.map (trv ad) _ = _; rw [List.map_append, List.map_reverse]) (by show 2 * 0 + _ ≤ 8; rw [stc_eq]; omega) hd ⟨Nat.zero_le _, Nat.zero_le _⟩) k
theorem g_callN {y : MethodName} {b' : ByteArray} {n' idx na : Nat} {r' : Option FieldType} {d' : Nat} {as rest : List Value} {Q' : Qt} (hF : Fq y b' n' r' d' as v L Q') (hd : decode b pc = .ok (.invokestatic idx, 3)) (cw : CwN own idx y b' n' r' na) (hl : as.length = na) (hdd : d' + 1 ≤ d) (hst : st = as.reverse ++ rest) (hc : stc rest ≤ 8) (k : ∀ res v' L', Q' res v' L' → G own b nL r d Q (pc + 3) ls (res.toList ++ rest) v' L') : G own b nL r d Q pc ls st v L := by
  intro l D cy ad z p e s m args below meth c H locs lsA hC
  have hC2 := hC
  obtain ⟨hx, hb, hr, hml, hown, hts, hlk, hSx, hP, hS, hL⟩ := hC
  subst hst
  refine g_back hC2 (va_runSN (S := ⟨hx, hb, hml, hown, hts⟩) (hF l D cy ad z) ⟨va_cnB (bytes := b') (maxL := n') (ret := r') na hts (good_code cw.1.2.1) rfl rfl rfl (hSx.2.2.2.2 _ cw.2.1) (hts _ cw.1.2.2.1) cw.1.1 (Rm_fit hdd cw.1.2.2.2), hts _ cw.2.2, trivial⟩ ⟨Wd.blind, fun U hU hW => ⟨rfl, g_pre hC2 U hU hW⟩⟩ rfl (by rw [List.length_map]; exact hl) hL.1 (by show List.map (trv ad) _ = _; rw [List.map_append, List.map_reverse]) (by show 2 * 0 + _ ≤ 8; rw [stc_eq]; omega) hd ⟨Nat.zero_le _, Nat.zero_le _⟩) k
theorem g_callV {y : MethodName} {b' : ByteArray} {n' idx na ci N kr : Nat} {r' : Option FieldType} {d' : Nat} {as rest : List Value} {Q' : Qt} {T : u_T} {ty : Nat → FieldType} (hF : Fq y b' n' r' d' (.ref kr :: as) v L Q') (cf : Cf ci y.cls T N ty) (hk : kd kr = ci) (hd : decode b pc = .ok (.invokevirtual idx, 3)) (cw : CwV own idx y b' n' r' na) (hl : as.length = na) (hdd : d' + 1 ≤ d) (hst : st = as.reverse ++ .ref kr :: rest) (hc : stc rest ≤ 8) (k : ∀ res v' L', Q' res v' L' → G own b nL r d Q (pc + 3) ls (res.toList ++ rest) v' L') : G own b nL r d Q pc ls st v L := by
  intro l D cy ad z p e s m args below meth c H locs lsA hC
  have hC2 := hC
  obtain ⟨hx, hb, hr, hml, hown, hts, hlk, hSx, hP, hS, hL⟩ := hC
  subst hst
  refine g_back hC2 (va_runV (S := ⟨hx, hb, hml, hown, hts⟩) (b := ad kr) (As := as.map (trv ad)) (C := y.cls) (hF l D cy ad z) ⟨callB_of (bytes := b') (maxL := n') (ret := r') na hts (good_code cw.1.2.1) rfl rfl rfl (hts _ cw.1.2.2.1) (hts _ cw.2.1) cw.1.1 (Rm_fit hdd cw.1.2.2.2), hts _ cw.2.2.1, hts _ cw.2.2.2⟩ ⟨Wd.blind, va_recv hSx.1 hP cf.1 (ws_obj hk cf.2.2.2.2.1), fun U hU hW => ⟨rfl, g_pre hC2 U hU hW⟩⟩ rfl (by rw [List.length_map]; exact hl) hL.1 (by show List.map (trv ad) _ = _; rw [List.map_append, List.map_reverse]; rfl) (by show 2 * 0 + _ ≤ 8; rw [stc_eq]; omega) hd ⟨Nat.zero_le _, Nat.zero_le _⟩) k

/-! returns -/
theorem g_end {D : va_G} {cy : Nat → ClassId} {ad : Nat → Nat} {z : Nat} {p : Program} {s : State} {m : MethodId} {args : Array Value} {meth : Method} {c : Code} {H : Heap} {locs : List Loc} {lsA : Array Slot} (hC : Cx own b nL r D cy ad z p s m args meth c H locs lsA v L ls) (res : Option Value) (hq : Q res v L) : ∀ t : State, t.heap = H → s.WarmedH t.vm → QcW D cy ad z Q args s (.returned (res.map (trv ad))) t := by
  intro t ht hW
  exact ⟨⟨res, v, L, rfl, hq, g_pre hC t ht hW⟩, hC.2.2.2.2.2.2.2.2.2.1.F ht⟩
theorem g_iret {x : Int32} (hd : decode b pc = .ok (.ireturn, 1)) (hr : r = some .int) (hq : Q (some (.int x)) v L) : G own b nL r d Q pc ls [.int x] v L := by
  intro l D cy ad z p e s m args below meth c H locs lsA hC
  have hC2 := hC
  obtain ⟨hx, hb, hr, hml, hown, hts, hlk, hSx, hP, hS, hL⟩ := hC
  rename_i hr0
  subst hr0
  exact W.iret hx hb hr (g_end hC2 (some (.int x)) hq) hS.2.2 hd hlk
theorem g_zret {x : Int32} (hd : decode b pc = .ok (.ireturn, 1)) (hr : r = some .boolean) (h01 : x = 0 ∨ x = 1) (hq : Q (some (.int x)) v L) : G own b nL r d Q pc ls [.int x] v L := by
  intro l D cy ad z p e s m args below meth c H locs lsA hC
  have hC2 := hC
  obtain ⟨hx, hb, hr, hml, hown, hts, hlk, hSx, hP, hS, hL⟩ := hC
  rename_i hr0
  subst hr0
  exact W.zret hx hb hr (by rcases h01 with h | h <;> rw [h] <;> rfl) (g_end hC2 (some (.int x)) hq) hS.2.2 hd hlk
theorem g_lret {x : Int64} (hd : decode b pc = .ok (.lreturn, 1)) (hr : r = some .long) (hq : Q (some (.long x)) v L) : G own b nL r d Q pc ls [.long x] v L := by
  intro l D cy ad z p e s m args below meth c H locs lsA hC
  have hC2 := hC
  obtain ⟨hx, hb, hr, hml, hown, hts, hlk, hSx, hP, hS, hL⟩ := hC
  rename_i hr0
  subst hr0
  exact W.lret hx hb hr (g_end hC2 (some (.long x)) hq) hS.2.2 hd hlk
theorem g_vret (hd : decode b pc = .ok (.return_, 1)) (hr : r = none) (hq : Q none v L) : G own b nL r d Q pc ls [] v L := by
  intro l D cy ad z p e s m args below meth c H locs lsA hC
  have hC2 := hC
  obtain ⟨hx, hb, hr, hml, hown, hts, hlk, hSx, hP, hS, hL⟩ := hC
  rename_i hr0
  subst hr0
  exact W.vret hx hb hr (g_end hC2 none hq) hS.2.2 hd hlk
theorem g_aret {x : Nat} {C : String} (hd : decode b pc = .ok (.areturn, 1)) (hr : r = some (.object C)) (hq : Q (some (.ref x)) v L) : G own b nL r d Q pc ls [.ref x] v L := by
  intro l D cy ad z p e s m args below meth c H locs lsA hC
  have hC2 := hC
  obtain ⟨hx, hb, hr, hml, hown, hts, hlk, hSx, hP, hS, hL⟩ := hC
  rename_i hr0
  subst hr0
  exact W.aret hx hb hr (Or.inl ⟨_, rfl⟩) (Or.inr ⟨_, rfl⟩) (g_end hC2 (some (.ref x)) hq) hS.2.2 hd hlk
theorem g_aretN {C : String} (hd : decode b pc = .ok (.areturn, 1)) (hr : r = some (.object C)) (hq : Q (some .null) v L) : G own b nL r d Q pc ls [.null] v L := by
  intro l D cy ad z p e s m args below meth c H locs lsA hC
  have hC2 := hC
  obtain ⟨hx, hb, hr, hml, hown, hts, hlk, hSx, hP, hS, hL⟩ := hC
  rename_i hr0
  subst hr0
  exact W.aret hx hb hr (Or.inl ⟨_, rfl⟩) (Or.inl rfl) (g_end hC2 (some .null) hq) hS.2.2 hd hlk
end Rows13
end
section
theorem ws_in_g {ws : List Cond} (ps : List Nat) (h : ws = ps.filterMap (fun i => lw_tbl[i]?)) (hg : ws.all goodWord = true) : ∀ w ∈ ws, w ∈ lw_g := by
  intro w hw
  have h1 := List.all_eq_true.mp hg w hw
  rw [h] at hw
  obtain ⟨i, -, hi⟩ := List.mem_filterMap.mp hw
  exact in_g i hi h1
theorem cf0 : Cf 0 RX0 TX0 5 tyX0 := ⟨rfl, ws_in_g [183, 185, 187, 189, 191] (by decide +kernel) (by decide +kernel), tyX0_ok, nmX0, by decide, by decide⟩
theorem cf1 : Cf 1 RX1 TX1 3 tyX1 := ⟨rfl, ws_in_g [198, 200, 202] (by decide +kernel) (by decide +kernel), tyX1_ok, nmX1, by decide, by decide⟩
theorem cf2 : Cf 2 RX2 TX2 7 tyX2 := ⟨rfl, ws_in_g [132, 134, 136, 138, 140, 142, 144] (by decide +kernel) (by decide +kernel), tyX2_ok, nmX2, by decide, by decide⟩
theorem cf3 : Cf 3 RX3 TX3 4 tyX3 := ⟨rfl, ws_in_g [218, 220, 222, 224] (by decide +kernel) (by decide +kernel), tyX3_ok, nmX3, by decide, by decide⟩
theorem cf4 : Cf 4 RX4 TX4 4 tyX4 := ⟨rfl, ws_in_g [154, 156, 158, 160] (by decide +kernel) (by decide +kernel), tyX4_ok, nmX4, by decide, by decide⟩
theorem cf5 : Cf 5 RX5 TX5 2 tyX5 := ⟨rfl, ws_in_g [264, 266] (by decide +kernel) (by decide +kernel), tyX5_ok, nmX5, by decide, by decide⟩
theorem cf6 : Cf 6 RX6 TX6 2 tyX6 := ⟨rfl, ws_in_g [73, 75] (by decide +kernel) (by decide +kernel), tyX6_ok, nmX6, by decide, by decide⟩
theorem cf7 : Cf 7 RX7 TX7 6 tyX7 := ⟨rfl, ws_in_g [239, 241, 243, 245, 247, 249] (by decide +kernel) (by decide +kernel), tyX7_ok, nmX7, by decide, by decide⟩
theorem cf8 : Cf 8 RX8 TX8 2 tyX8 := ⟨rfl, ws_in_g [89, 91] (by decide +kernel) (by decide +kernel), tyX8_ok, nmX8, by decide, by decide⟩
theorem cf9 : Cf 9 RX9 TX9 11 tyX9 := ⟨rfl, ws_in_g [280, 282, 284, 286, 288, 290, 292, 294, 296, 298, 300] (by decide +kernel) (by decide +kernel), tyX9_ok, nmX9, by decide, by decide⟩
theorem cf10 : Cf 10 RX10 TX10 25 tyX10 := ⟨rfl, ws_in_g [800, 802, 804, 806, 808, 810, 812, 814, 816, 818, 820, 822, 824, 826, 828, 830, 832, 834, 836, 838, 840, 842, 844, 846, 848] (by decide +kernel) (by decide +kernel), tyX10_ok, nmX10, by decide, by decide⟩
theorem fl_RX6_9 : Cond.fieldLink RX6 9 (TX6 0).1 (TX6 0).2.1 (TX6 0).2.2.1 ∈ lw_g := (in_g 70 (by decide +kernel) rfl)
theorem fl_RX6_15 : Cond.fieldLink RX6 15 (TX6 1).1 (TX6 1).2.1 (TX6 1).2.2.1 ∈ lw_g := (in_g 71 (by decide +kernel) rfl)
theorem fl_RX9_76 : Cond.fieldLink RX9 76 (TX6 1).1 (TX6 1).2.1 (TX6 1).2.2.1 ∈ lw_g := (in_g 72 (by decide +kernel) rfl)
theorem fl_RX8_9 : Cond.fieldLink RX8 9 (TX8 0).1 (TX8 0).2.1 (TX8 0).2.2.1 ∈ lw_g := (in_g 85 (by decide +kernel) rfl)
theorem fl_RX8_29 : Cond.fieldLink RX8 29 (TX8 1).1 (TX8 1).2.1 (TX8 1).2.2.1 ∈ lw_g := (in_g 86 (by decide +kernel) rfl)
theorem fl_RX9_106 : Cond.fieldLink RX9 106 (TX8 1).1 (TX8 1).2.1 (TX8 1).2.2.1 ∈ lw_g := (in_g 87 (by decide +kernel) rfl)
theorem fl_RX4_78 : Cond.fieldLink RX4 78 (TX8 1).1 (TX8 1).2.1 (TX8 1).2.2.1 ∈ lw_g := (in_g 88 (by decide +kernel) rfl)
theorem fl_RX2_9 : Cond.fieldLink RX2 9 (TX2 0).1 (TX2 0).2.1 (TX2 0).2.2.1 ∈ lw_g := (in_g 107 (by decide +kernel) rfl)
theorem fl_RX9_115 : Cond.fieldLink RX9 115 (TX2 0).1 (TX2 0).2.1 (TX2 0).2.2.1 ∈ lw_g := (in_g 108 (by decide +kernel) rfl)
theorem fl_RX7_58 : Cond.fieldLink RX7 58 (TX2 0).1 (TX2 0).2.1 (TX2 0).2.2.1 ∈ lw_g := (in_g 109 (by decide +kernel) rfl)
theorem fl_RX6_60 : Cond.fieldLink RX6 60 (TX2 0).1 (TX2 0).2.1 (TX2 0).2.2.1 ∈ lw_g := (in_g 110 (by decide +kernel) rfl)
theorem fl_RX4_63 : Cond.fieldLink RX4 63 (TX2 0).1 (TX2 0).2.1 (TX2 0).2.2.1 ∈ lw_g := (in_g 111 (by decide +kernel) rfl)
theorem fl_RX2_15 : Cond.fieldLink RX2 15 (TX2 1).1 (TX2 1).2.1 (TX2 1).2.2.1 ∈ lw_g := (in_g 112 (by decide +kernel) rfl)
theorem fl_RX9_120 : Cond.fieldLink RX9 120 (TX2 1).1 (TX2 1).2.1 (TX2 1).2.2.1 ∈ lw_g := (in_g 113 (by decide +kernel) rfl)
theorem fl_RX6_65 : Cond.fieldLink RX6 65 (TX2 1).1 (TX2 1).2.1 (TX2 1).2.2.1 ∈ lw_g := (in_g 114 (by decide +kernel) rfl)
theorem fl_RX2_18 : Cond.fieldLink RX2 18 (TX2 2).1 (TX2 2).2.1 (TX2 2).2.2.1 ∈ lw_g := (in_g 115 (by decide +kernel) rfl)
theorem fl_RX3_33 : Cond.fieldLink RX3 33 (TX2 2).1 (TX2 2).2.1 (TX2 2).2.2.1 ∈ lw_g := (in_g 116 (by decide +kernel) rfl)
theorem fl_RX6_68 : Cond.fieldLink RX6 68 (TX2 2).1 (TX2 2).2.1 (TX2 2).2.2.1 ∈ lw_g := (in_g 117 (by decide +kernel) rfl)
theorem fl_RX2_21 : Cond.fieldLink RX2 21 (TX2 3).1 (TX2 3).2.1 (TX2 3).2.2.1 ∈ lw_g := (in_g 118 (by decide +kernel) rfl)
theorem fl_RX3_36 : Cond.fieldLink RX3 36 (TX2 3).1 (TX2 3).2.1 (TX2 3).2.2.1 ∈ lw_g := (in_g 119 (by decide +kernel) rfl)
theorem fl_RX6_71 : Cond.fieldLink RX6 71 (TX2 3).1 (TX2 3).2.1 (TX2 3).2.2.1 ∈ lw_g := (in_g 120 (by decide +kernel) rfl)
theorem fl_RX2_24 : Cond.fieldLink RX2 24 (TX2 4).1 (TX2 4).2.1 (TX2 4).2.2.1 ∈ lw_g := (in_g 121 (by decide +kernel) rfl)
theorem fl_RX4_49 : Cond.fieldLink RX4 49 (TX2 4).1 (TX2 4).2.1 (TX2 4).2.2.1 ∈ lw_g := (in_g 122 (by decide +kernel) rfl)
theorem fl_RX9_126 : Cond.fieldLink RX9 126 (TX2 4).1 (TX2 4).2.1 (TX2 4).2.2.1 ∈ lw_g := (in_g 123 (by decide +kernel) rfl)
theorem fl_RX6_77 : Cond.fieldLink RX6 77 (TX2 4).1 (TX2 4).2.1 (TX2 4).2.2.1 ∈ lw_g := (in_g 124 (by decide +kernel) rfl)
theorem fl_RX2_27 : Cond.fieldLink RX2 27 (TX2 5).1 (TX2 5).2.1 (TX2 5).2.2.1 ∈ lw_g := (in_g 125 (by decide +kernel) rfl)
theorem fl_RX9_129 : Cond.fieldLink RX9 129 (TX2 5).1 (TX2 5).2.1 (TX2 5).2.2.1 ∈ lw_g := (in_g 126 (by decide +kernel) rfl)
theorem fl_RX6_74 : Cond.fieldLink RX6 74 (TX2 5).1 (TX2 5).2.1 (TX2 5).2.2.1 ∈ lw_g := (in_g 127 (by decide +kernel) rfl)
theorem fl_RX2_30 : Cond.fieldLink RX2 30 (TX2 6).1 (TX2 6).2.1 (TX2 6).2.2.1 ∈ lw_g := (in_g 128 (by decide +kernel) rfl)
theorem fl_RX9_132 : Cond.fieldLink RX9 132 (TX2 6).1 (TX2 6).2.1 (TX2 6).2.2.1 ∈ lw_g := (in_g 129 (by decide +kernel) rfl)
theorem fl_RX6_80 : Cond.fieldLink RX6 80 (TX2 6).1 (TX2 6).2.1 (TX2 6).2.2.1 ∈ lw_g := (in_g 130 (by decide +kernel) rfl)
theorem fl_RX4_93 : Cond.fieldLink RX4 93 (TX2 6).1 (TX2 6).2.1 (TX2 6).2.2.1 ∈ lw_g := (in_g 131 (by decide +kernel) rfl)
theorem fl_RX4_11 : Cond.fieldLink RX4 11 (TX4 0).1 (TX4 0).2.1 (TX4 0).2.2.1 ∈ lw_g := (in_g 147 (by decide +kernel) rfl)
theorem fl_RX4_17 : Cond.fieldLink RX4 17 (TX4 1).1 (TX4 1).2.1 (TX4 1).2.2.1 ∈ lw_g := (in_g 148 (by decide +kernel) rfl)
theorem fl_RX4_22 : Cond.fieldLink RX4 22 (TX4 2).1 (TX4 2).2.1 (TX4 2).2.2.1 ∈ lw_g := (in_g 149 (by decide +kernel) rfl)
theorem fl_RX9_95 : Cond.fieldLink RX9 95 (TX4 2).1 (TX4 2).2.1 (TX4 2).2.2.1 ∈ lw_g := (in_g 150 (by decide +kernel) rfl)
theorem fl_RX4_26 : Cond.fieldLink RX4 26 (TX4 3).1 (TX4 3).2.1 (TX4 3).2.2.1 ∈ lw_g := (in_g 151 (by decide +kernel) rfl)
theorem fl_RX0_32 : Cond.fieldLink RX0 32 (TX4 3).1 (TX4 3).2.1 (TX4 3).2.2.1 ∈ lw_g := (in_g 152 (by decide +kernel) rfl)
theorem fl_RX9_285 : Cond.fieldLink RX9 285 (TX4 3).1 (TX4 3).2.1 (TX4 3).2.2.1 ∈ lw_g := (in_g 153 (by decide +kernel) rfl)
theorem fl_RX0_10 : Cond.fieldLink RX0 10 (TX0 0).1 (TX0 0).2.1 (TX0 0).2.2.1 ∈ lw_g := (in_g 178 (by decide +kernel) rfl)
theorem fl_RX0_16 : Cond.fieldLink RX0 16 (TX0 1).1 (TX0 1).2.1 (TX0 1).2.2.1 ∈ lw_g := (in_g 179 (by decide +kernel) rfl)
theorem fl_RX0_20 : Cond.fieldLink RX0 20 (TX0 2).1 (TX0 2).2.1 (TX0 2).2.2.1 ∈ lw_g := (in_g 180 (by decide +kernel) rfl)
theorem fl_RX0_29 : Cond.fieldLink RX0 29 (TX0 3).1 (TX0 3).2.1 (TX0 3).2.2.1 ∈ lw_g := (in_g 181 (by decide +kernel) rfl)
theorem fl_RX0_35 : Cond.fieldLink RX0 35 (TX0 4).1 (TX0 4).2.1 (TX0 4).2.2.1 ∈ lw_g := (in_g 182 (by decide +kernel) rfl)
theorem fl_RX1_11 : Cond.fieldLink RX1 11 (TX1 0).1 (TX1 0).2.1 (TX1 0).2.2.1 ∈ lw_g := (in_g 194 (by decide +kernel) rfl)
theorem fl_RX1_18 : Cond.fieldLink RX1 18 (TX1 1).1 (TX1 1).2.1 (TX1 1).2.2.1 ∈ lw_g := (in_g 195 (by decide +kernel) rfl)
theorem fl_RX1_28 : Cond.fieldLink RX1 28 (TX1 2).1 (TX1 2).2.1 (TX1 2).2.2.1 ∈ lw_g := (in_g 196 (by decide +kernel) rfl)
theorem fl_RX9_179 : Cond.fieldLink RX9 179 (TX1 2).1 (TX1 2).2.1 (TX1 2).2.2.1 ∈ lw_g := (in_g 197 (by decide +kernel) rfl)
theorem fl_RX3_9 : Cond.fieldLink RX3 9 (TX3 0).1 (TX3 0).2.1 (TX3 0).2.2.1 ∈ lw_g := (in_g 213 (by decide +kernel) rfl)
theorem fl_RX3_15 : Cond.fieldLink RX3 15 (TX3 1).1 (TX3 1).2.1 (TX3 1).2.2.1 ∈ lw_g := (in_g 214 (by decide +kernel) rfl)
theorem fl_RX3_21 : Cond.fieldLink RX3 21 (TX3 2).1 (TX3 2).2.1 (TX3 2).2.2.1 ∈ lw_g := (in_g 215 (by decide +kernel) rfl)
theorem fl_RX3_25 : Cond.fieldLink RX3 25 (TX3 3).1 (TX3 3).2.1 (TX3 3).2.2.1 ∈ lw_g := (in_g 216 (by decide +kernel) rfl)
theorem fl_RX9_228 : Cond.fieldLink RX9 228 (TX3 3).1 (TX3 3).2.1 (TX3 3).2.2.1 ∈ lw_g := (in_g 217 (by decide +kernel) rfl)
theorem fl_RX7_9 : Cond.fieldLink RX7 9 (TX7 0).1 (TX7 0).2.1 (TX7 0).2.2.1 ∈ lw_g := (in_g 233 (by decide +kernel) rfl)
theorem fl_RX7_15 : Cond.fieldLink RX7 15 (TX7 1).1 (TX7 1).2.1 (TX7 1).2.2.1 ∈ lw_g := (in_g 234 (by decide +kernel) rfl)
theorem fl_RX7_18 : Cond.fieldLink RX7 18 (TX7 2).1 (TX7 2).2.1 (TX7 2).2.2.1 ∈ lw_g := (in_g 235 (by decide +kernel) rfl)
theorem fl_RX7_21 : Cond.fieldLink RX7 21 (TX7 3).1 (TX7 3).2.1 (TX7 3).2.2.1 ∈ lw_g := (in_g 236 (by decide +kernel) rfl)
theorem fl_RX7_24 : Cond.fieldLink RX7 24 (TX7 4).1 (TX7 4).2.1 (TX7 4).2.2.1 ∈ lw_g := (in_g 237 (by decide +kernel) rfl)
theorem fl_RX7_27 : Cond.fieldLink RX7 27 (TX7 5).1 (TX7 5).2.1 (TX7 5).2.2.1 ∈ lw_g := (in_g 238 (by decide +kernel) rfl)
theorem fl_RX5_10 : Cond.fieldLink RX5 10 (TX5 0).1 (TX5 0).2.1 (TX5 0).2.2.1 ∈ lw_g := (in_g 261 (by decide +kernel) rfl)
theorem fl_RX9_282 : Cond.fieldLink RX9 282 (TX5 0).1 (TX5 0).2.1 (TX5 0).2.2.1 ∈ lw_g := (in_g 262 (by decide +kernel) rfl)
theorem fl_RX9_91 : Cond.fieldLink RX9 91 (TX5 1).1 (TX5 1).2.1 (TX5 1).2.2.1 ∈ lw_g := (in_g 263 (by decide +kernel) rfl)
theorem fl_RX9_10 : Cond.fieldLink RX9 10 (TX9 0).1 (TX9 0).2.1 (TX9 0).2.2.1 ∈ lw_g := (in_g 269 (by decide +kernel) rfl)
theorem fl_RX9_19 : Cond.fieldLink RX9 19 (TX9 1).1 (TX9 1).2.1 (TX9 1).2.2.1 ∈ lw_g := (in_g 270 (by decide +kernel) rfl)
theorem fl_RX9_26 : Cond.fieldLink RX9 26 (TX9 2).1 (TX9 2).2.1 (TX9 2).2.2.1 ∈ lw_g := (in_g 271 (by decide +kernel) rfl)
theorem fl_RX9_30 : Cond.fieldLink RX9 30 (TX9 3).1 (TX9 3).2.1 (TX9 3).2.2.1 ∈ lw_g := (in_g 272 (by decide +kernel) rfl)
theorem fl_RX9_36 : Cond.fieldLink RX9 36 (TX9 4).1 (TX9 4).2.1 (TX9 4).2.2.1 ∈ lw_g := (in_g 273 (by decide +kernel) rfl)
theorem fl_RX9_43 : Cond.fieldLink RX9 43 (TX9 5).1 (TX9 5).2.1 (TX9 5).2.2.1 ∈ lw_g := (in_g 274 (by decide +kernel) rfl)
theorem fl_RX9_50 : Cond.fieldLink RX9 50 (TX9 6).1 (TX9 6).2.1 (TX9 6).2.2.1 ∈ lw_g := (in_g 275 (by decide +kernel) rfl)
theorem fl_RX9_56 : Cond.fieldLink RX9 56 (TX9 7).1 (TX9 7).2.1 (TX9 7).2.2.1 ∈ lw_g := (in_g 276 (by decide +kernel) rfl)
theorem fl_RX9_60 : Cond.fieldLink RX9 60 (TX9 8).1 (TX9 8).2.1 (TX9 8).2.2.1 ∈ lw_g := (in_g 277 (by decide +kernel) rfl)
theorem fl_RX9_64 : Cond.fieldLink RX9 64 (TX9 9).1 (TX9 9).2.1 (TX9 9).2.2.1 ∈ lw_g := (in_g 278 (by decide +kernel) rfl)
theorem fl_RX9_265 : Cond.fieldLink RX9 265 (TX9 10).1 (TX9 10).2.1 (TX9 10).2.2.1 ∈ lw_g := (in_g 279 (by decide +kernel) rfl)
theorem fl_RX6_23 : Cond.fieldLinkNest RX6 23 "BroadNib" (sN 2) (sD 2) "BroadNib" ∈ nestW := in_n 330 (by decide +kernel) rfl
theorem fl_RX6_26 : Cond.fieldLinkNest RX6 26 "BroadNib" (sN 3) (sD 3) "BroadNib" ∈ nestW := in_n 332 (by decide +kernel) rfl
theorem fl_RX9_309 : Cond.fieldLink RX9 309 "BroadNib" (sN 5) (sD 5) ∈ lw_g := (in_g 391 (by decide +kernel) rfl)
theorem kc_RX9_316 : Cond.constantLong RX9 316 (10) ∈ lw_g := (in_g 399 (by decide +kernel) rfl)
theorem fl_RX9_318 : Cond.fieldLink RX9 318 "BroadNib" (sN 0) (sD 0) ∈ lw_g := (in_g 460 (by decide +kernel) rfl)
theorem fl_RX9_321 : Cond.fieldLink RX9 321 "BroadNib" (sN 1) (sD 1) ∈ lw_g := (in_g 462 (by decide +kernel) rfl)
theorem fl_RX2_38 : Cond.fieldLinkNest RX2 38 "BroadNib" (sN 0) (sD 0) "BroadNib" ∈ nestW := in_n 473 (by decide +kernel) rfl
theorem fl_RX2_42 : Cond.fieldLinkNest RX2 42 "BroadNib" (sN 1) (sD 1) "BroadNib" ∈ nestW := in_n 474 (by decide +kernel) rfl
theorem kc_RX7_36 : Cond.constant RX7 36 (1000000) ∈ lw_g := (in_g 580 (by decide +kernel) rfl)
theorem kc_RJ6_265 : Cond.constant RJ6 265 (1431655765) ∈ lw_g := (in_g 680 (by decide +kernel) rfl)
theorem kc_RJ6_266 : Cond.constant RJ6 266 (858993459) ∈ lw_g := (in_g 681 (by decide +kernel) rfl)
theorem kc_RJ6_267 : Cond.constant RJ6 267 (252645135) ∈ lw_g := (in_g 682 (by decide +kernel) rfl)
theorem fl_RX9_313 : Cond.fieldLink RX9 313 "BroadNib" (sN 4) (sD 4) ∈ lw_g := (in_g 686 (by decide +kernel) rfl)
theorem kc_RX9_269 : Cond.constantLong RX9 269 (6364136223846793005) ∈ lw_g := (in_g 737 (by decide +kernel) rfl)
theorem kc_RX9_271 : Cond.constantLong RX9 271 (1442695040888963407) ∈ lw_g := (in_g 738 (by decide +kernel) rfl)
theorem kc_RX9_273 : Cond.constantLong RX9 273 (48) ∈ lw_g := (in_g 739 (by decide +kernel) rfl)
theorem fl_RX10_84 : Cond.fieldLink RX10 84 (TX10 0).1 (TX10 0).2.1 (TX10 0).2.2.1 ∈ lw_g := (in_g 775 (by decide +kernel) rfl)
theorem fl_RX10_7 : Cond.fieldLink RX10 7 (TX10 1).1 (TX10 1).2.1 (TX10 1).2.2.1 ∈ lw_g := (in_g 776 (by decide +kernel) rfl)
theorem fl_RX10_13 : Cond.fieldLink RX10 13 (TX10 2).1 (TX10 2).2.1 (TX10 2).2.2.1 ∈ lw_g := (in_g 777 (by decide +kernel) rfl)
theorem fl_RX10_16 : Cond.fieldLink RX10 16 (TX10 3).1 (TX10 3).2.1 (TX10 3).2.2.1 ∈ lw_g := (in_g 778 (by decide +kernel) rfl)
theorem fl_RX10_19 : Cond.fieldLink RX10 19 (TX10 4).1 (TX10 4).2.1 (TX10 4).2.2.1 ∈ lw_g := (in_g 779 (by decide +kernel) rfl)
theorem fl_RX10_22 : Cond.fieldLink RX10 22 (TX10 5).1 (TX10 5).2.1 (TX10 5).2.2.1 ∈ lw_g := (in_g 780 (by decide +kernel) rfl)
theorem fl_RX10_66 : Cond.fieldLink RX10 66 (TX10 6).1 (TX10 6).2.1 (TX10 6).2.2.1 ∈ lw_g := (in_g 781 (by decide +kernel) rfl)
theorem fl_RX10_69 : Cond.fieldLink RX10 69 (TX10 7).1 (TX10 7).2.1 (TX10 7).2.2.1 ∈ lw_g := (in_g 782 (by decide +kernel) rfl)
theorem fl_RX10_25 : Cond.fieldLink RX10 25 (TX10 8).1 (TX10 8).2.1 (TX10 8).2.2.1 ∈ lw_g := (in_g 783 (by decide +kernel) rfl)
theorem fl_RX10_56 : Cond.fieldLink RX10 56 (TX10 9).1 (TX10 9).2.1 (TX10 9).2.2.1 ∈ lw_g := (in_g 784 (by decide +kernel) rfl)
theorem fl_RX10_63 : Cond.fieldLink RX10 63 (TX10 10).1 (TX10 10).2.1 (TX10 10).2.2.1 ∈ lw_g := (in_g 785 (by decide +kernel) rfl)
theorem fl_RX10_60 : Cond.fieldLink RX10 60 (TX10 11).1 (TX10 11).2.1 (TX10 11).2.2.1 ∈ lw_g := (in_g 786 (by decide +kernel) rfl)
theorem fl_RX10_100 : Cond.fieldLink RX10 100 (TX10 12).1 (TX10 12).2.1 (TX10 12).2.2.1 ∈ lw_g := (in_g 787 (by decide +kernel) rfl)
theorem fl_RX10_28 : Cond.fieldLink RX10 28 (TX10 13).1 (TX10 13).2.1 (TX10 13).2.2.1 ∈ lw_g := (in_g 788 (by decide +kernel) rfl)
theorem fl_RX10_130 : Cond.fieldLink RX10 130 (TX10 14).1 (TX10 14).2.1 (TX10 14).2.2.1 ∈ lw_g := (in_g 789 (by decide +kernel) rfl)
theorem fl_RX10_87 : Cond.fieldLink RX10 87 (TX10 15).1 (TX10 15).2.1 (TX10 15).2.2.1 ∈ lw_g := (in_g 790 (by decide +kernel) rfl)
theorem fl_RX10_155 : Cond.fieldLink RX10 155 (TX10 16).1 (TX10 16).2.1 (TX10 16).2.2.1 ∈ lw_g := (in_g 791 (by decide +kernel) rfl)
theorem fl_RX10_31 : Cond.fieldLink RX10 31 (TX10 17).1 (TX10 17).2.1 (TX10 17).2.2.1 ∈ lw_g := (in_g 792 (by decide +kernel) rfl)
theorem fl_RX10_34 : Cond.fieldLink RX10 34 (TX10 18).1 (TX10 18).2.1 (TX10 18).2.2.1 ∈ lw_g := (in_g 793 (by decide +kernel) rfl)
theorem fl_RX10_190 : Cond.fieldLink RX10 190 (TX10 19).1 (TX10 19).2.1 (TX10 19).2.2.1 ∈ lw_g := (in_g 794 (by decide +kernel) rfl)
theorem fl_RX10_37 : Cond.fieldLink RX10 37 (TX10 20).1 (TX10 20).2.1 (TX10 20).2.2.1 ∈ lw_g := (in_g 795 (by decide +kernel) rfl)
theorem fl_RX10_40 : Cond.fieldLink RX10 40 (TX10 21).1 (TX10 21).2.1 (TX10 21).2.2.1 ∈ lw_g := (in_g 796 (by decide +kernel) rfl)
theorem fl_RX10_218 : Cond.fieldLink RX10 218 (TX10 22).1 (TX10 22).2.1 (TX10 22).2.2.1 ∈ lw_g := (in_g 797 (by decide +kernel) rfl)
theorem fl_RX10_43 : Cond.fieldLink RX10 43 (TX10 23).1 (TX10 23).2.1 (TX10 23).2.2.1 ∈ lw_g := (in_g 798 (by decide +kernel) rfl)
theorem fl_RX10_47 : Cond.fieldLink RX10 47 (TX10 24).1 (TX10 24).2.1 (TX10 24).2.2.1 ∈ lw_g := (in_g 799 (by decide +kernel) rfl)
theorem kc_RX10_50 : Cond.constantLong RX10 50 (255) ∈ lw_g := (in_g 856 (by decide +kernel) rfl)
theorem kc_RX10_92 : Cond.constantLong RX10 92 (8) ∈ lw_g := (in_g 888 (by decide +kernel) rfl)
theorem kc_RX10_90 : Cond.constantLong RX10 90 (10) ∈ lw_g := (in_g 892 (by decide +kernel) rfl)
theorem kc_RX10_98 : Cond.constantLong RX10 98 (7) ∈ lw_g := (in_g 893 (by decide +kernel) rfl)
theorem kc_RX10_110 : Cond.constantLong RX10 110 (4) ∈ lw_g := (in_g 934 (by decide +kernel) rfl)
theorem kc_RX10_153 : Cond.constantLong RX10 153 (24) ∈ lw_g := (in_g 950 (by decide +kernel) rfl)
theorem kc_RX10_165 : Cond.constantLong RX10 165 (2) ∈ lw_g := (in_g 991 (by decide +kernel) rfl)
theorem kc_RX10_167 : Cond.constant RX10 167 (1000000) ∈ lw_g := (in_g 1000 (by decide +kernel) rfl)
theorem kc_RX10_183 : Cond.constantLong RX10 183 (1000) ∈ lw_g := (in_g 1020 (by decide +kernel) rfl)
theorem kc_RX10_188 : Cond.constantLong RX10 188 (6) ∈ lw_g := (in_g 1033 (by decide +kernel) rfl)
theorem kc_RX10_216 : Cond.constantLong RX10 216 (99) ∈ lw_g := (in_g 1079 (by decide +kernel) rfl)
theorem kc_RX10_222 : Cond.constantLong RX10 222 (30) ∈ lw_g := (in_g 1088 (by decide +kernel) rfl)
theorem kc_RX10_224 : Cond.constantLong RX10 224 (6364136223846793005) ∈ lw_g := (in_g 1089 (by decide +kernel) rfl)
theorem kc_RX10_226 : Cond.constantLong RX10 226 (1442695040888963407) ∈ lw_g := (in_g 1090 (by decide +kernel) rfl)
theorem kc_RX10_228 : Cond.constantLong RX10 228 (48) ∈ lw_g := (in_g 1091 (by decide +kernel) rfl)
theorem kc_RL_31 : Cond.constantLong RL 31 (4294967295) ∈ lw_g := (in_g 1112 (by decide +kernel) rfl)
theorem cwb_X0_note : CwB yX0_note cX0_note 5 none 3 := ⟨⟨by decide +kernel, by decide +kernel, by decide +kernel⟩, in_g 513 (by decide +kernel) rfl, (in_g 47 (by decide +kernel) rfl), by decide⟩
theorem cwb_X0_takeBack : CwB yX0_takeBack cX0_takeBack 3 none 1 := ⟨⟨by decide +kernel, by decide +kernel, by decide +kernel⟩, in_g 565 (by decide +kernel) rfl, (in_g 47 (by decide +kernel) rfl), by decide⟩
theorem cwb_X1_at : CwB yX1_at cX1_at 2 (some (.object "BroadNib$Act")) 1 := ⟨⟨by decide +kernel, by decide +kernel, by decide +kernel⟩, in_g 506 (by decide +kernel) rfl, (in_g 46 (by decide +kernel) rfl), by decide⟩
theorem cwb_X1_note : CwB yX1_note cX1_note 4 none 3 := ⟨⟨by decide +kernel, by decide +kernel, by decide +kernel⟩, in_g 502 (by decide +kernel) rfl, (in_g 46 (by decide +kernel) rfl), by decide⟩
theorem cwb_X1_takeBackLast : CwB yX1_takeBackLast cX1_takeBackLast 2 none 1 := ⟨⟨by decide +kernel, by decide +kernel, by decide +kernel⟩, in_g 561 (by decide +kernel) rfl, (in_g 46 (by decide +kernel) rfl), by decide⟩
theorem cwb_X1_forgetAll : CwB yX1_forgetAll cX1_forgetAll 1 none 0 := ⟨⟨by decide +kernel, by decide +kernel, by decide +kernel⟩, in_g 380 (by decide +kernel) rfl, (in_g 46 (by decide +kernel) rfl), by decide⟩
theorem cwb_X2_copy : CwB yX2_copy cX2_copy 2 none 1 := ⟨⟨by decide +kernel, by decide +kernel, by decide +kernel⟩, in_g 440 (by decide +kernel) rfl, (in_g 45 (by decide +kernel) rfl), by decide⟩
theorem cwb_X2_isFull : CwB yX2_isFull cX2_isFull 1 (some .boolean) 0 := ⟨⟨by decide +kernel, by decide +kernel, by decide +kernel⟩, in_g 533 (by decide +kernel) rfl, (in_g 45 (by decide +kernel) rfl), by decide⟩
theorem cwb_X2_flip : CwB yX2_flip cX2_flip 1 none 0 := ⟨⟨by decide +kernel, by decide +kernel, by decide +kernel⟩, in_g 525 (by decide +kernel) rfl, (in_g 45 (by decide +kernel) rfl), by decide⟩
theorem cwb_X2_refill : CwB yX2_refill cX2_refill 2 (some .int) 0 := ⟨⟨by decide +kernel, by decide +kernel, by decide +kernel⟩, in_g 537 (by decide +kernel) rfl, (in_g 45 (by decide +kernel) rfl), by decide⟩
theorem cwb_X2_quarter : CwB yX2_quarter cX2_quarter 2 none 0 := ⟨⟨by decide +kernel, by decide +kernel, by decide +kernel⟩, in_g 545 (by decide +kernel) rfl, (in_g 45 (by decide +kernel) rfl), by decide⟩
theorem cwb_X2_toldNib : CwB yX2_toldNib cX2_toldNib 1 (some .int) 0 := ⟨⟨by decide +kernel, by decide +kernel, by decide +kernel⟩, in_g 421 (by decide +kernel) rfl, (in_g 45 (by decide +kernel) rfl), by decide⟩
theorem cwb_X2_across : CwB yX2_across cX2_across 3 (some .int) 1 := ⟨⟨by decide +kernel, by decide +kernel, by decide +kernel⟩, in_g 471 (by decide +kernel) rfl, (in_g 45 (by decide +kernel) rfl), by decide⟩
theorem cwb_X2_lays : CwB yX2_lays cX2_lays 3 (some .int) 2 := ⟨⟨by decide +kernel, by decide +kernel, by decide +kernel⟩, in_g 467 (by decide +kernel) rfl, (in_g 45 (by decide +kernel) rfl), by decide⟩
theorem cwb_X3_add : CwB yX3_add cX3_add 3 (some .boolean) 2 := ⟨⟨by decide +kernel, by decide +kernel, by decide +kernel⟩, in_g 651 (by decide +kernel) rfl, (in_g 48 (by decide +kernel) rfl), by decide⟩
theorem cwb_X3_countNibs : CwB yX3_countNibs cX3_countNibs 4 (some .int) 0 := ⟨⟨by decide +kernel, by decide +kernel, by decide +kernel⟩, in_g 663 (by decide +kernel) rfl, (in_g 48 (by decide +kernel) rfl), by decide⟩
theorem cwb_X3_firstNib : CwB yX3_firstNib cX3_firstNib 3 (some .int) 0 := ⟨⟨by decide +kernel, by decide +kernel, by decide +kernel⟩, in_g 672 (by decide +kernel) rfl, (in_g 48 (by decide +kernel) rfl), by decide⟩
theorem cwb_X3_fits : CwB yX3_fits cX3_fits 4 (some .boolean) 2 := ⟨⟨by decide +kernel, by decide +kernel, by decide +kernel⟩, in_g 667 (by decide +kernel) rfl, (in_g 48 (by decide +kernel) rfl), by decide⟩
theorem cwb_X4_clear : CwB yX4_clear cX4_clear 1 none 0 := ⟨⟨by decide +kernel, by decide +kernel, by decide +kernel⟩, in_g 358 (by decide +kernel) rfl, (in_g 44 (by decide +kernel) rfl), by decide⟩
theorem cwb_X4_copy : CwB yX4_copy cX4_copy 3 none 1 := ⟨⟨by decide +kernel, by decide +kernel, by decide +kernel⟩, in_g 433 (by decide +kernel) rfl, (in_g 44 (by decide +kernel) rfl), by decide⟩
theorem cwb_X4_addPen : CwB yX4_addPen cX4_addPen 1 (some (.object "BroadNib$Pen")) 0 := ⟨⟨by decide +kernel, by decide +kernel, by decide +kernel⟩, in_g 369 (by decide +kernel) rfl, (in_g 44 (by decide +kernel) rfl), by decide⟩
theorem cwb_X4_find : CwB yX4_find cX4_find 2 (some (.object "BroadNib$Pen")) 1 := ⟨⟨by decide +kernel, by decide +kernel, by decide +kernel⟩, in_g 417 (by decide +kernel) rfl, (in_g 44 (by decide +kernel) rfl), by decide⟩
theorem cwb_X4_inkOf : CwB yX4_inkOf cX4_inkOf 3 (some .int) 1 := ⟨⟨by decide +kernel, by decide +kernel, by decide +kernel⟩, in_g 714 (by decide +kernel) rfl, (in_g 44 (by decide +kernel) rfl), by decide⟩
theorem cwb_X4_inkOn : CwB yX4_inkOn cX4_inkOn 2 (some .int) 1 := ⟨⟨by decide +kernel, by decide +kernel, by decide +kernel⟩, in_g 482 (by decide +kernel) rfl, (in_g 44 (by decide +kernel) rfl), by decide⟩
theorem cwb_X4_setInk : CwB yX4_setInk cX4_setInk 3 none 2 := ⟨⟨by decide +kernel, by decide +kernel, by decide +kernel⟩, in_g 373 (by decide +kernel) rfl, (in_g 44 (by decide +kernel) rfl), by decide⟩
theorem cwb_X4_clean : CwB yX4_clean cX4_clean 3 (some .int) 1 := ⟨⟨by decide +kernel, by decide +kernel, by decide +kernel⟩, in_g 553 (by decide +kernel) rfl, (in_g 44 (by decide +kernel) rfl), by decide⟩
theorem cwb_X4_move : CwB yX4_move cX4_move 5 (some .int) 2 := ⟨⟨by decide +kernel, by decide +kernel, by decide +kernel⟩, in_g 454 (by decide +kernel) rfl, (in_g 44 (by decide +kernel) rfl), by decide⟩
theorem cwb_X4_follow : CwB yX4_follow cX4_follow 6 (some .int) 3 := ⟨⟨by decide +kernel, by decide +kernel, by decide +kernel⟩, in_g 444 (by decide +kernel) rfl, (in_g 44 (by decide +kernel) rfl), by decide⟩
theorem cwb_X4_isBlack : CwB yX4_isBlack cX4_isBlack 2 (some .boolean) 1 := ⟨⟨by decide +kernel, by decide +kernel, by decide +kernel⟩, in_g 643 (by decide +kernel) rfl, (in_g 44 (by decide +kernel) rfl), by decide⟩
theorem cwb_X4_inkOnAll : CwB yX4_inkOnAll cX4_inkOnAll 3 (some .int) 0 := ⟨⟨by decide +kernel, by decide +kernel, by decide +kernel⟩, in_g 747 (by decide +kernel) rfl, (in_g 44 (by decide +kernel) rfl), by decide⟩
theorem cwb_X4_blackBits : CwB yX4_blackBits cX4_blackBits 3 (some .int) 0 := ⟨⟨by decide +kernel, by decide +kernel, by decide +kernel⟩, in_g 695 (by decide +kernel) rfl, (in_g 44 (by decide +kernel) rfl), by decide⟩
theorem cwb_X4_downBits : CwB yX4_downBits cX4_downBits 3 (some .int) 0 := ⟨⟨by decide +kernel, by decide +kernel, by decide +kernel⟩, in_g 763 (by decide +kernel) rfl, (in_g 44 (by decide +kernel) rfl), by decide⟩
theorem cwb_X4_fullBits : CwB yX4_fullBits cX4_fullBits 3 (some .int) 0 := ⟨⟨by decide +kernel, by decide +kernel, by decide +kernel⟩, in_g 767 (by decide +kernel) rfl, (in_g 44 (by decide +kernel) rfl), by decide⟩
theorem cwb_X6_add : CwB yX6_add cX6_add 2 (some .boolean) 1 := ⟨⟨by decide +kernel, by decide +kernel, by decide +kernel⟩, in_g 313 (by decide +kernel) rfl, (in_g 42 (by decide +kernel) rfl), by decide⟩
theorem cwb_X6_letterAt : CwB yX6_letterAt cX6_letterAt 2 (some .int) 1 := ⟨⟨by decide +kernel, by decide +kernel, by decide +kernel⟩, in_g 329 (by decide +kernel) rfl, (in_g 42 (by decide +kernel) rfl), by decide⟩
theorem cwb_X6_figureAt : CwB yX6_figureAt cX6_figureAt 2 (some .int) 1 := ⟨⟨by decide +kernel, by decide +kernel, by decide +kernel⟩, in_g 341 (by decide +kernel) rfl, (in_g 42 (by decide +kernel) rfl), by decide⟩
theorem cwb_X6_findFault : CwB yX6_findFault cX6_findFault 7 (some .int) 0 := ⟨⟨by decide +kernel, by decide +kernel, by decide +kernel⟩, in_g 325 (by decide +kernel) rfl, (in_g 42 (by decide +kernel) rfl), by decide⟩
theorem cwb_X6_findFaultIn : CwB yX6_findFaultIn cX6_findFaultIn 5 (some .int) 2 := ⟨⟨by decide +kernel, by decide +kernel, by decide +kernel⟩, in_g 337 (by decide +kernel) rfl, (in_g 42 (by decide +kernel) rfl), by decide⟩
theorem cwb_X6_isNoNib : CwB yX6_isNoNib cX6_isNoNib 3 (some .boolean) 2 := ⟨⟨by decide +kernel, by decide +kernel, by decide +kernel⟩, in_g 346 (by decide +kernel) rfl, (in_g 42 (by decide +kernel) rfl), by decide⟩
theorem cwb_X6_layOut : CwB yX6_layOut cX6_layOut 3 none 1 := ⟨⟨by decide +kernel, by decide +kernel, by decide +kernel⟩, in_g 354 (by decide +kernel) rfl, (in_g 42 (by decide +kernel) rfl), by decide⟩
theorem cwb_X6_layPen : CwB yX6_layPen cX6_layPen 4 none 2 := ⟨⟨by decide +kernel, by decide +kernel, by decide +kernel⟩, in_g 365 (by decide +kernel) rfl, (in_g 42 (by decide +kernel) rfl), by decide⟩
theorem cwb_X7_reckonTo : CwB yX7_reckonTo cX7_reckonTo 5 none 2 := ⟨⟨by decide +kernel, by decide +kernel, by decide +kernel⟩, in_g 578 (by decide +kernel) rfl, (in_g 49 (by decide +kernel) rfl), by decide⟩
theorem cwb_X7_isLowered : CwB yX7_isLowered cX7_isLowered 5 (some .boolean) 0 := ⟨⟨by decide +kernel, by decide +kernel, by decide +kernel⟩, in_g 584 (by decide +kernel) rfl, (in_g 49 (by decide +kernel) rfl), by decide⟩
theorem cwb_X7_costBy : CwB yX7_costBy cX7_costBy 4 (some .int) 2 := ⟨⟨by decide +kernel, by decide +kernel, by decide +kernel⟩, in_g 588 (by decide +kernel) rfl, (in_g 49 (by decide +kernel) rfl), by decide⟩
theorem cwb_X7_costFrom : CwB yX7_costFrom cX7_costFrom 2 (some .int) 1 := ⟨⟨by decide +kernel, by decide +kernel, by decide +kernel⟩, in_g 599 (by decide +kernel) rfl, (in_g 49 (by decide +kernel) rfl), by decide⟩
theorem cwb_X7_inkFrom : CwB yX7_inkFrom cX7_inkFrom 2 (some .int) 1 := ⟨⟨by decide +kernel, by decide +kernel, by decide +kernel⟩, in_g 595 (by decide +kernel) rfl, (in_g 49 (by decide +kernel) rfl), by decide⟩
theorem cwb_X7_stepsFrom : CwB yX7_stepsFrom cX7_stepsFrom 2 (some .int) 1 := ⟨⟨by decide +kernel, by decide +kernel, by decide +kernel⟩, in_g 603 (by decide +kernel) rfl, (in_g 49 (by decide +kernel) rfl), by decide⟩
theorem cwb_X7_directionFrom : CwB yX7_directionFrom cX7_directionFrom 4 (some .int) 1 := ⟨⟨by decide +kernel, by decide +kernel, by decide +kernel⟩, in_g 607 (by decide +kernel) rfl, (in_g 49 (by decide +kernel) rfl), by decide⟩
theorem cwb_X7_walk : CwB yX7_walk cX7_walk 4 none 2 := ⟨⟨by decide +kernel, by decide +kernel, by decide +kernel⟩, in_g 615 (by decide +kernel) rfl, (in_g 49 (by decide +kernel) rfl), by decide⟩
theorem cwb_X7_walkOne : CwB yX7_walkOne cX7_walkOne 6 none 1 := ⟨⟨by decide +kernel, by decide +kernel, by decide +kernel⟩, in_g 619 (by decide +kernel) rfl, (in_g 49 (by decide +kernel) rfl), by decide⟩
theorem cwb_X7_rowsTo : CwB yX7_rowsTo cX7_rowsTo 2 (some .int) 1 := ⟨⟨by decide +kernel, by decide +kernel, by decide +kernel⟩, in_g 626 (by decide +kernel) rfl, (in_g 49 (by decide +kernel) rfl), by decide⟩
theorem cwb_X7_lowestTo : CwB yX7_lowestTo cX7_lowestTo 2 (some .int) 1 := ⟨⟨by decide +kernel, by decide +kernel, by decide +kernel⟩, in_g 630 (by decide +kernel) rfl, (in_g 49 (by decide +kernel) rfl), by decide⟩
theorem cwb_X8_isOfDirections : CwB yX8_isOfDirections cX8_isOfDirections 4 (some .boolean) 2 := ⟨⟨by decide +kernel, by decide +kernel, by decide +kernel⟩, in_g 395 (by decide +kernel) rfl, (in_g 43 (by decide +kernel) rfl), by decide⟩
theorem cwb_X8_tell : CwB yX8_tell cX8_tell 5 none 2 := ⟨⟨by decide +kernel, by decide +kernel, by decide +kernel⟩, in_g 406 (by decide +kernel) rfl, (in_g 43 (by decide +kernel) rfl), by decide⟩
theorem cwb_X8_at : CwB yX8_at cX8_at 2 (some .int) 1 := ⟨⟨by decide +kernel, by decide +kernel, by decide +kernel⟩, in_g 449 (by decide +kernel) rfl, (in_g 43 (by decide +kernel) rfl), by decide⟩
theorem cwb_X9_write : CwB yX9_write cX9_write 2 (some .int) 1 := ⟨⟨by decide +kernel, by decide +kernel, by decide +kernel⟩, in_g 306 (by decide +kernel) rfl, (in_g 41 (by decide +kernel) rfl), by decide⟩
theorem cwb_X9_wipe : CwB yX9_wipe cX9_wipe 2 (some .int) 0 := ⟨⟨by decide +kernel, by decide +kernel, by decide +kernel⟩, in_g 317 (by decide +kernel) rfl, (in_g 41 (by decide +kernel) rfl), by decide⟩
theorem cwb_X9_fault : CwB yX9_fault cX9_fault 1 (some .int) 0 := ⟨⟨by decide +kernel, by decide +kernel, by decide +kernel⟩, in_g 321 (by decide +kernel) rfl, (in_g 41 (by decide +kernel) rfl), by decide⟩
theorem cwb_X9_desk : CwB yX9_desk cX9_desk 2 (some .int) 0 := ⟨⟨by decide +kernel, by decide +kernel, by decide +kernel⟩, in_g 350 (by decide +kernel) rfl, (in_g 41 (by decide +kernel) rfl), by decide⟩
theorem cwb_X9_word : CwB yX9_word cX9_word 5 (some .int) 2 := ⟨⟨by decide +kernel, by decide +kernel, by decide +kernel⟩, in_g 384 (by decide +kernel) rfl, (in_g 41 (by decide +kernel) rfl), by decide⟩
theorem cwb_X9_pen : CwB yX9_pen cX9_pen 4 (some .int) 2 := ⟨⟨by decide +kernel, by decide +kernel, by decide +kernel⟩, in_g 413 (by decide +kernel) rfl, (in_g 41 (by decide +kernel) rfl), by decide⟩
theorem cwb_X9_dot : CwB yX9_dot cX9_dot 2 (some .int) 1 := ⟨⟨by decide +kernel, by decide +kernel, by decide +kernel⟩, in_g 487 (by decide +kernel) rfl, (in_g 41 (by decide +kernel) rfl), by decide⟩
theorem cwb_X9_thick : CwB yX9_thick cX9_thick 4 (some .int) 2 := ⟨⟨by decide +kernel, by decide +kernel, by decide +kernel⟩, in_g 492 (by decide +kernel) rfl, (in_g 41 (by decide +kernel) rfl), by decide⟩
theorem cwb_X9_step : CwB yX9_step cX9_step 5 (some .int) 2 := ⟨⟨by decide +kernel, by decide +kernel, by decide +kernel⟩, in_g 497 (by decide +kernel) rfl, (in_g 41 (by decide +kernel) rfl), by decide⟩
theorem cwb_X9_put : CwB yX9_put cX9_put 3 (some .int) 1 := ⟨⟨by decide +kernel, by decide +kernel, by decide +kernel⟩, in_g 521 (by decide +kernel) rfl, (in_g 41 (by decide +kernel) rfl), by decide⟩
theorem cwb_X9_dip : CwB yX9_dip cX9_dip 3 (some .int) 1 := ⟨⟨by decide +kernel, by decide +kernel, by decide +kernel⟩, in_g 529 (by decide +kernel) rfl, (in_g 41 (by decide +kernel) rfl), by decide⟩
theorem cwb_X9_turn : CwB yX9_turn cX9_turn 3 (some .int) 1 := ⟨⟨by decide +kernel, by decide +kernel, by decide +kernel⟩, in_g 541 (by decide +kernel) rfl, (in_g 41 (by decide +kernel) rfl), by decide⟩
theorem cwb_X9_blot : CwB yX9_blot cX9_blot 2 (some .int) 1 := ⟨⟨by decide +kernel, by decide +kernel, by decide +kernel⟩, in_g 549 (by decide +kernel) rfl, (in_g 41 (by decide +kernel) rfl), by decide⟩
theorem cwb_X9_undo : CwB yX9_undo cX9_undo 1 (some .int) 0 := ⟨⟨by decide +kernel, by decide +kernel, by decide +kernel⟩, in_g 557 (by decide +kernel) rfl, (in_g 41 (by decide +kernel) rfl), by decide⟩
theorem cwb_X9_behind : CwB yX9_behind cX9_behind 6 (some .int) 3 := ⟨⟨by decide +kernel, by decide +kernel, by decide +kernel⟩, in_g 570 (by decide +kernel) rfl, (in_g 41 (by decide +kernel) rfl), by decide⟩
theorem cwb_X9_least : CwB yX9_least cX9_least 5 (some .int) 3 := ⟨⟨by decide +kernel, by decide +kernel, by decide +kernel⟩, in_g 574 (by decide +kernel) rfl, (in_g 41 (by decide +kernel) rfl), by decide⟩
theorem cwb_X9_rings : CwB yX9_rings cX9_rings 5 (some .int) 3 := ⟨⟨by decide +kernel, by decide +kernel, by decide +kernel⟩, in_g 611 (by decide +kernel) rfl, (in_g 41 (by decide +kernel) rfl), by decide⟩
theorem cwb_X9_judge : CwB yX9_judge cX9_judge 6 (some .int) 2 := ⟨⟨by decide +kernel, by decide +kernel, by decide +kernel⟩, in_g 634 (by decide +kernel) rfl, (in_g 41 (by decide +kernel) rfl), by decide⟩
theorem cwb_X9_see : CwB yX9_see cX9_see 3 (some .int) 2 := ⟨⟨by decide +kernel, by decide +kernel, by decide +kernel⟩, in_g 647 (by decide +kernel) rfl, (in_g 41 (by decide +kernel) rfl), by decide⟩
theorem cwb_X9_unsee : CwB yX9_unsee cX9_unsee 2 (some .int) 0 := ⟨⟨by decide +kernel, by decide +kernel, by decide +kernel⟩, in_g 655 (by decide +kernel) rfl, (in_g 41 (by decide +kernel) rfl), by decide⟩
theorem cwb_X9_nibs : CwB yX9_nibs cX9_nibs 2 (some .int) 1 := ⟨⟨by decide +kernel, by decide +kernel, by decide +kernel⟩, in_g 659 (by decide +kernel) rfl, (in_g 41 (by decide +kernel) rfl), by decide⟩
theorem cwb_X9_share : CwB yX9_share cX9_share 7 (some .int) 2 := ⟨⟨by decide +kernel, by decide +kernel, by decide +kernel⟩, in_g 676 (by decide +kernel) rfl, (in_g 41 (by decide +kernel) rfl), by decide⟩
theorem cwb_X9_rests : CwB yX9_rests cX9_rests 7 (some .int) 3 := ⟨⟨by decide +kernel, by decide +kernel, by decide +kernel⟩, in_g 706 (by decide +kernel) rfl, (in_g 41 (by decide +kernel) rfl), by decide⟩
theorem cwb_X9_skipped : CwB yX9_skipped cX9_skipped 6 (some .int) 4 := ⟨⟨by decide +kernel, by decide +kernel, by decide +kernel⟩, in_g 723 (by decide +kernel) rfl, (in_g 41 (by decide +kernel) rfl), by decide⟩
theorem cwb_X9_seed : CwB yX9_seed cX9_seed 5 (some .long) 1 := ⟨⟨by decide +kernel, by decide +kernel, by decide +kernel⟩, in_g 732 (by decide +kernel) rfl, (in_g 41 (by decide +kernel) rfl), by decide⟩
theorem cwb_X9_years : CwB yX9_years cX9_years 4 (some .int) 1 := ⟨⟨by decide +kernel, by decide +kernel, by decide +kernel⟩, in_g 736 (by decide +kernel) rfl, (in_g 41 (by decide +kernel) rfl), by decide⟩
theorem cwb_X9_keep : CwB yX9_keep cX9_keep 2 (some .int) 1 := ⟨⟨by decide +kernel, by decide +kernel, by decide +kernel⟩, in_g 751 (by decide +kernel) rfl, (in_g 41 (by decide +kernel) rfl), by decide⟩
theorem cwb_X9_again : CwB yX9_again cX9_again 2 (some .int) 1 := ⟨⟨by decide +kernel, by decide +kernel, by decide +kernel⟩, in_g 755 (by decide +kernel) rfl, (in_g 41 (by decide +kernel) rfl), by decide⟩
theorem cwb_X9_count : CwB yX9_count cX9_count 2 (some .int) 1 := ⟨⟨by decide +kernel, by decide +kernel, by decide +kernel⟩, in_g 759 (by decide +kernel) rfl, (in_g 41 (by decide +kernel) rfl), by decide⟩
theorem cwb_X9_tried : CwB yX9_tried cX9_tried 2 (some (.object "BroadNib$Pen")) 1 := ⟨⟨by decide +kernel, by decide +kernel, by decide +kernel⟩, in_g 429 (by decide +kernel) rfl, (in_g 41 (by decide +kernel) rfl), by decide⟩
theorem cwb_X9_placeOfStop : CwB yX9_placeOfStop cX9_placeOfStop 4 (some .int) 1 := ⟨⟨by decide +kernel, by decide +kernel, by decide +kernel⟩, in_g 425 (by decide +kernel) rfl, (in_g 41 (by decide +kernel) rfl), by decide⟩
theorem cwb_X9_isDone : CwB yX9_isDone cX9_isDone 6 (some .boolean) 3 := ⟨⟨by decide +kernel, by decide +kernel, by decide +kernel⟩, in_g 639 (by decide +kernel) rfl, (in_g 41 (by decide +kernel) rfl), by decide⟩
theorem cwb_X9_blackerBehind : CwB yX9_blackerBehind cX9_blackerBehind 4 (some .int) 2 := ⟨⟨by decide +kernel, by decide +kernel, by decide +kernel⟩, in_g 691 (by decide +kernel) rfl, (in_g 41 (by decide +kernel) rfl), by decide⟩
theorem cwb_X9_reckonGains : CwB yX9_reckonGains cX9_reckonGains 5 none 3 := ⟨⟨by decide +kernel, by decide +kernel, by decide +kernel⟩, in_g 710 (by decide +kernel) rfl, (in_g 41 (by decide +kernel) rfl), by decide⟩
theorem cwb_X9_isRest : CwB yX9_isRest cX9_isRest 2 (some .boolean) 1 := ⟨⟨by decide +kernel, by decide +kernel, by decide +kernel⟩, in_g 719 (by decide +kernel) rfl, (in_g 41 (by decide +kernel) rfl), by decide⟩
theorem cwb_X9_casesOfEnough : CwB yX9_casesOfEnough cX9_casesOfEnough 12 (some .long) 7 := ⟨⟨by decide +kernel, by decide +kernel, by decide +kernel⟩, in_g 726 (by decide +kernel) rfl, (in_g 41 (by decide +kernel) rfl), by decide⟩
theorem cwb_X9_passYear : CwB yX9_passYear cX9_passYear 3 none 1 := ⟨⟨by decide +kernel, by decide +kernel, by decide +kernel⟩, in_g 743 (by decide +kernel) rfl, (in_g 41 (by decide +kernel) rfl), by decide⟩
theorem cwb_X9_isWithin : CwB yX9_isWithin cX9_isWithin 2 (some .boolean) 2 := ⟨⟨by decide +kernel, by decide +kernel, by decide +kernel⟩, in_g 309 (by decide +kernel) rfl, (in_g 41 (by decide +kernel) rfl), by decide⟩
theorem cwb_X9_isDot : CwB yX9_isDot cX9_isDot 1 (some .boolean) 1 := ⟨⟨by decide +kernel, by decide +kernel, by decide +kernel⟩, in_g 376 (by decide +kernel) rfl, (in_g 41 (by decide +kernel) rfl), by decide⟩
theorem cwb_X9_isDirection : CwB yX9_isDirection cX9_isDirection 1 (some .boolean) 1 := ⟨⟨by decide +kernel, by decide +kernel, by decide +kernel⟩, in_g 402 (by decide +kernel) rfl, (in_g 41 (by decide +kernel) rfl), by decide⟩
theorem cwb_X9_tens : CwB yX9_tens cX9_tens 1 (some .long) 1 := ⟨⟨by decide +kernel, by decide +kernel, by decide +kernel⟩, in_g 390 (by decide +kernel) rfl, (in_g 41 (by decide +kernel) rfl), by decide⟩
theorem cwb_X9_orders : CwB yX9_orders cX9_orders 1 (some .int) 1 := ⟨⟨by decide +kernel, by decide +kernel, by decide +kernel⟩, in_g 685 (by decide +kernel) rfl, (in_g 41 (by decide +kernel) rfl), by decide⟩
theorem cwb_X9_hasFigures : CwB yX9_hasFigures cX9_hasFigures 3 (some .boolean) 2 := ⟨⟨by decide +kernel, by decide +kernel, by decide +kernel⟩, in_g 387 (by decide +kernel) rfl, (in_g 41 (by decide +kernel) rfl), by decide⟩
theorem cwb_X9_figure : CwB yX9_figure cX9_figure 3 (some .int) 2 := ⟨⟨by decide +kernel, by decide +kernel, by decide +kernel⟩, in_g 398 (by decide +kernel) rfl, (in_g 41 (by decide +kernel) rfl), by decide⟩
theorem cwb_X9_neighbour : CwB yX9_neighbour cX9_neighbour 4 (some .int) 2 := ⟨⟨by decide +kernel, by decide +kernel, by decide +kernel⟩, in_g 457 (by decide +kernel) rfl, (in_g 41 (by decide +kernel) rfl), by decide⟩
theorem cwb_X9_toldFraction : CwB yX9_toldFraction cX9_toldFraction 7 (some .int) 3 := ⟨⟨by decide +kernel, by decide +kernel, by decide +kernel⟩, in_g 699 (by decide +kernel) rfl, (in_g 41 (by decide +kernel) rfl), by decide⟩
theorem cwb_X9_commonDivisor : CwB yX9_commonDivisor cX9_commonDivisor 11 (some .long) 2 := ⟨⟨by decide +kernel, by decide +kernel, by decide +kernel⟩, in_g 702 (by decide +kernel) rfl, (in_g 41 (by decide +kernel) rfl), by decide⟩
theorem cwb_X10_in : CwB yX10_in cX10_in 6 (some .boolean) 3 := ⟨⟨by decide +kernel, by decide +kernel, by decide +kernel⟩, in_g 859 (by decide +kernel) rfl, (in_g 51 (by decide +kernel) rfl), by decide⟩
theorem cwb_X10_has : CwB yX10_has cX10_has 2 (some .boolean) 2 := ⟨⟨by decide +kernel, by decide +kernel, by decide +kernel⟩, in_g 920 (by decide +kernel) rfl, (in_g 51 (by decide +kernel) rfl), by decide⟩
theorem cwb_X10_ones : CwB yX10_ones cX10_ones 3 (some .int) 1 := ⟨⟨by decide +kernel, by decide +kernel, by decide +kernel⟩, in_g 1048 (by decide +kernel) rfl, (in_g 51 (by decide +kernel) rfl), by decide⟩
theorem cwb_X10_write : CwB yX10_write cX10_write 2 (some .int) 1 := ⟨⟨by decide +kernel, by decide +kernel, by decide +kernel⟩, in_g 855 (by decide +kernel) rfl, (in_g 51 (by decide +kernel) rfl), by decide⟩
theorem cwb_X10_wipe : CwB yX10_wipe cX10_wipe 2 (some .int) 0 := ⟨⟨by decide +kernel, by decide +kernel, by decide +kernel⟩, in_g 863 (by decide +kernel) rfl, (in_g 51 (by decide +kernel) rfl), by decide⟩
theorem cwb_X10_figureOf : CwB yX10_figureOf cX10_figureOf 5 (some .int) 2 := ⟨⟨by decide +kernel, by decide +kernel, by decide +kernel⟩, in_g 879 (by decide +kernel) rfl, (in_g 51 (by decide +kernel) rfl), by decide⟩
theorem cwb_X10_readText : CwB yX10_readText cX10_readText 1 (some .int) 0 := ⟨⟨by decide +kernel, by decide +kernel, by decide +kernel⟩, in_g 871 (by decide +kernel) rfl, (in_g 51 (by decide +kernel) rfl), by decide⟩
theorem cwb_X10_readPart : CwB yX10_readPart cX10_readPart 4 none 1 := ⟨⟨by decide +kernel, by decide +kernel, by decide +kernel⟩, in_g 875 (by decide +kernel) rfl, (in_g 51 (by decide +kernel) rfl), by decide⟩
theorem cwb_X10_fault : CwB yX10_fault cX10_fault 1 (some .int) 0 := ⟨⟨by decide +kernel, by decide +kernel, by decide +kernel⟩, in_g 867 (by decide +kernel) rfl, (in_g 51 (by decide +kernel) rfl), by decide⟩
theorem cwb_X10_desk : CwB yX10_desk cX10_desk 2 (some .int) 0 := ⟨⟨by decide +kernel, by decide +kernel, by decide +kernel⟩, in_g 883 (by decide +kernel) rfl, (in_g 51 (by decide +kernel) rfl), by decide⟩
theorem cwb_X10_tenTo : CwB yX10_tenTo cX10_tenTo 4 (some .long) 1 := ⟨⟨by decide +kernel, by decide +kernel, by decide +kernel⟩, in_g 891 (by decide +kernel) rfl, (in_g 51 (by decide +kernel) rfl), by decide⟩
theorem cwb_X10_word : CwB yX10_word cX10_word 6 (some .int) 2 := ⟨⟨by decide +kernel, by decide +kernel, by decide +kernel⟩, in_g 887 (by decide +kernel) rfl, (in_g 51 (by decide +kernel) rfl), by decide⟩
theorem cwb_X10_isPen : CwB yX10_isPen cX10_isPen 2 (some .boolean) 1 := ⟨⟨by decide +kernel, by decide +kernel, by decide +kernel⟩, in_g 901 (by decide +kernel) rfl, (in_g 51 (by decide +kernel) rfl), by decide⟩
theorem cwb_X10_across : CwB yX10_across cX10_across 1 (some .int) 1 := ⟨⟨by decide +kernel, by decide +kernel, by decide +kernel⟩, in_g 930 (by decide +kernel) rfl, (in_g 51 (by decide +kernel) rfl), by decide⟩
theorem cwb_X10_upward : CwB yX10_upward cX10_upward 1 (some .int) 1 := ⟨⟨by decide +kernel, by decide +kernel, by decide +kernel⟩, in_g 933 (by decide +kernel) rfl, (in_g 51 (by decide +kernel) rfl), by decide⟩
theorem cwb_X10_nextDot : CwB yX10_nextDot cX10_nextDot 4 (some .int) 2 := ⟨⟨by decide +kernel, by decide +kernel, by decide +kernel⟩, in_g 927 (by decide +kernel) rfl, (in_g 51 (by decide +kernel) rfl), by decide⟩
theorem cwb_X10_size : CwB yX10_size cX10_size 1 (some .int) 1 := ⟨⟨by decide +kernel, by decide +kernel, by decide +kernel⟩, in_g 945 (by decide +kernel) rfl, (in_g 51 (by decide +kernel) rfl), by decide⟩
theorem cwb_X10_thickOn : CwB yX10_thickOn cX10_thickOn 7 (some .int) 3 := ⟨⟨by decide +kernel, by decide +kernel, by decide +kernel⟩, in_g 942 (by decide +kernel) rfl, (in_g 51 (by decide +kernel) rfl), by decide⟩
theorem cwb_X10_canStep : CwB yX10_canStep cX10_canStep 4 (some .boolean) 3 := ⟨⟨by decide +kernel, by decide +kernel, by decide +kernel⟩, in_g 924 (by decide +kernel) rfl, (in_g 51 (by decide +kernel) rfl), by decide⟩
theorem cwb_X10_stepOn : CwB yX10_stepOn cX10_stepOn 9 (some .int) 3 := ⟨⟨by decide +kernel, by decide +kernel, by decide +kernel⟩, in_g 938 (by decide +kernel) rfl, (in_g 51 (by decide +kernel) rfl), by decide⟩
theorem cwb_X10_turnOn : CwB yX10_turnOn cX10_turnOn 5 none 2 := ⟨⟨by decide +kernel, by decide +kernel, by decide +kernel⟩, in_g 978 (by decide +kernel) rfl, (in_g 51 (by decide +kernel) rfl), by decide⟩
theorem cwb_X10_nibOf : CwB yX10_nibOf cX10_nibOf 2 (some .int) 1 := ⟨⟨by decide +kernel, by decide +kernel, by decide +kernel⟩, in_g 905 (by decide +kernel) rfl, (in_g 51 (by decide +kernel) rfl), by decide⟩
theorem cwb_X10_writeOn : CwB yX10_writeOn cX10_writeOn 7 (some .int) 4 := ⟨⟨by decide +kernel, by decide +kernel, by decide +kernel⟩, in_g 917 (by decide +kernel) rfl, (in_g 51 (by decide +kernel) rfl), by decide⟩
theorem cwb_X10_blackOn : CwB yX10_blackOn cX10_blackOn 4 (some .int) 1 := ⟨⟨by decide +kernel, by decide +kernel, by decide +kernel⟩, in_g 1059 (by decide +kernel) rfl, (in_g 51 (by decide +kernel) rfl), by decide⟩
theorem cwb_X10_inkOn : CwB yX10_inkOn cX10_inkOn 4 (some .int) 1 := ⟨⟨by decide +kernel, by decide +kernel, by decide +kernel⟩, in_g 1095 (by decide +kernel) rfl, (in_g 51 (by decide +kernel) rfl), by decide⟩
theorem cwb_X10_layTrial : CwB yX10_layTrial cX10_layTrial 2 none 0 := ⟨⟨by decide +kernel, by decide +kernel, by decide +kernel⟩, in_g 913 (by decide +kernel) rfl, (in_g 51 (by decide +kernel) rfl), by decide⟩
theorem cwb_X10_stopsAt : CwB yX10_stopsAt cX10_stopsAt 2 (some .int) 1 := ⟨⟨by decide +kernel, by decide +kernel, by decide +kernel⟩, in_g 909 (by decide +kernel) rfl, (in_g 51 (by decide +kernel) rfl), by decide⟩
theorem cwb_X10_pen : CwB yX10_pen cX10_pen 3 (some .int) 2 := ⟨⟨by decide +kernel, by decide +kernel, by decide +kernel⟩, in_g 897 (by decide +kernel) rfl, (in_g 51 (by decide +kernel) rfl), by decide⟩
theorem cwb_X10_dot : CwB yX10_dot cX10_dot 2 (some .int) 1 := ⟨⟨by decide +kernel, by decide +kernel, by decide +kernel⟩, in_g 949 (by decide +kernel) rfl, (in_g 51 (by decide +kernel) rfl), by decide⟩
theorem cwb_X10_thick : CwB yX10_thick cX10_thick 3 (some .int) 2 := ⟨⟨by decide +kernel, by decide +kernel, by decide +kernel⟩, in_g 954 (by decide +kernel) rfl, (in_g 51 (by decide +kernel) rfl), by decide⟩
theorem cwb_X10_keepAct : CwB yX10_keepAct cX10_keepAct 2 none 0 := ⟨⟨by decide +kernel, by decide +kernel, by decide +kernel⟩, in_g 962 (by decide +kernel) rfl, (in_g 51 (by decide +kernel) rfl), by decide⟩
theorem cwb_X10_step : CwB yX10_step cX10_step 3 (some .int) 2 := ⟨⟨by decide +kernel, by decide +kernel, by decide +kernel⟩, in_g 958 (by decide +kernel) rfl, (in_g 51 (by decide +kernel) rfl), by decide⟩
theorem cwb_X10_put : CwB yX10_put cX10_put 2 (some .int) 1 := ⟨⟨by decide +kernel, by decide +kernel, by decide +kernel⟩, in_g 966 (by decide +kernel) rfl, (in_g 51 (by decide +kernel) rfl), by decide⟩
theorem cwb_X10_dip : CwB yX10_dip cX10_dip 3 (some .int) 1 := ⟨⟨by decide +kernel, by decide +kernel, by decide +kernel⟩, in_g 970 (by decide +kernel) rfl, (in_g 51 (by decide +kernel) rfl), by decide⟩
theorem cwb_X10_turn : CwB yX10_turn cX10_turn 2 (some .int) 1 := ⟨⟨by decide +kernel, by decide +kernel, by decide +kernel⟩, in_g 974 (by decide +kernel) rfl, (in_g 51 (by decide +kernel) rfl), by decide⟩
theorem cwb_X10_blot : CwB yX10_blot cX10_blot 3 (some .int) 1 := ⟨⟨by decide +kernel, by decide +kernel, by decide +kernel⟩, in_g 982 (by decide +kernel) rfl, (in_g 51 (by decide +kernel) rfl), by decide⟩
theorem cwb_X10_undo : CwB yX10_undo cX10_undo 2 (some .int) 0 := ⟨⟨by decide +kernel, by decide +kernel, by decide +kernel⟩, in_g 986 (by decide +kernel) rfl, (in_g 51 (by decide +kernel) rfl), by decide⟩
theorem cwb_X10_behind : CwB yX10_behind cX10_behind 5 (some .int) 3 := ⟨⟨by decide +kernel, by decide +kernel, by decide +kernel⟩, in_g 990 (by decide +kernel) rfl, (in_g 51 (by decide +kernel) rfl), by decide⟩
theorem cwb_X10_findFar : CwB yX10_findFar cX10_findFar 7 none 2 := ⟨⟨by decide +kernel, by decide +kernel, by decide +kernel⟩, in_g 999 (by decide +kernel) rfl, (in_g 51 (by decide +kernel) rfl), by decide⟩
theorem cwb_X10_firstWay : CwB yX10_firstWay cX10_firstWay 5 (some .int) 1 := ⟨⟨by decide +kernel, by decide +kernel, by decide +kernel⟩, in_g 1004 (by decide +kernel) rfl, (in_g 51 (by decide +kernel) rfl), by decide⟩
theorem cwb_X10_least : CwB yX10_least cX10_least 4 (some .int) 3 := ⟨⟨by decide +kernel, by decide +kernel, by decide +kernel⟩, in_g 995 (by decide +kernel) rfl, (in_g 51 (by decide +kernel) rfl), by decide⟩
theorem cwb_X10_ringBy : CwB yX10_ringBy cX10_ringBy 8 (some .int) 3 := ⟨⟨by decide +kernel, by decide +kernel, by decide +kernel⟩, in_g 1012 (by decide +kernel) rfl, (in_g 51 (by decide +kernel) rfl), by decide⟩
theorem cwb_X10_rings : CwB yX10_rings cX10_rings 9 (some .int) 3 := ⟨⟨by decide +kernel, by decide +kernel, by decide +kernel⟩, in_g 1008 (by decide +kernel) rfl, (in_g 51 (by decide +kernel) rfl), by decide⟩
theorem cwb_X10_tryThing : CwB yX10_tryThing cX10_tryThing 8 (some .boolean) 3 := ⟨⟨by decide +kernel, by decide +kernel, by decide +kernel⟩, in_g 1024 (by decide +kernel) rfl, (in_g 51 (by decide +kernel) rfl), by decide⟩
theorem cwb_X10_writesAll : CwB yX10_writesAll cX10_writesAll 2 (some .boolean) 1 := ⟨⟨by decide +kernel, by decide +kernel, by decide +kernel⟩, in_g 1028 (by decide +kernel) rfl, (in_g 51 (by decide +kernel) rfl), by decide⟩
theorem cwb_X10_thousandTo : CwB yX10_thousandTo cX10_thousandTo 1 (some .long) 1 := ⟨⟨by decide +kernel, by decide +kernel, by decide +kernel⟩, in_g 1019 (by decide +kernel) rfl, (in_g 51 (by decide +kernel) rfl), by decide⟩
theorem cwb_X10_judge : CwB yX10_judge cX10_judge 6 (some .int) 2 := ⟨⟨by decide +kernel, by decide +kernel, by decide +kernel⟩, in_g 1016 (by decide +kernel) rfl, (in_g 51 (by decide +kernel) rfl), by decide⟩
theorem cwb_X10_see : CwB yX10_see cX10_see 3 (some .int) 2 := ⟨⟨by decide +kernel, by decide +kernel, by decide +kernel⟩, in_g 1032 (by decide +kernel) rfl, (in_g 51 (by decide +kernel) rfl), by decide⟩
theorem cwb_X10_unsee : CwB yX10_unsee cX10_unsee 2 (some .int) 0 := ⟨⟨by decide +kernel, by decide +kernel, by decide +kernel⟩, in_g 1037 (by decide +kernel) rfl, (in_g 51 (by decide +kernel) rfl), by decide⟩
theorem cwb_X10_nibs : CwB yX10_nibs cX10_nibs 9 (some .int) 1 := ⟨⟨by decide +kernel, by decide +kernel, by decide +kernel⟩, in_g 1041 (by decide +kernel) rfl, (in_g 51 (by decide +kernel) rfl), by decide⟩
theorem cwb_X10_factorial : CwB yX10_factorial cX10_factorial 3 (some .int) 1 := ⟨⟨by decide +kernel, by decide +kernel, by decide +kernel⟩, in_g 1051 (by decide +kernel) rfl, (in_g 51 (by decide +kernel) rfl), by decide⟩
theorem cwb_X10_common : CwB yX10_common cX10_common 5 (some .int) 2 := ⟨⟨by decide +kernel, by decide +kernel, by decide +kernel⟩, in_g 1062 (by decide +kernel) rfl, (in_g 51 (by decide +kernel) rfl), by decide⟩
theorem cwb_X10_blackBy : CwB yX10_blackBy cX10_blackBy 3 (some .int) 1 := ⟨⟨by decide +kernel, by decide +kernel, by decide +kernel⟩, in_g 1055 (by decide +kernel) rfl, (in_g 51 (by decide +kernel) rfl), by decide⟩
theorem cwb_X10_share : CwB yX10_share cX10_share 6 (some .int) 2 := ⟨⟨by decide +kernel, by decide +kernel, by decide +kernel⟩, in_g 1045 (by decide +kernel) rfl, (in_g 51 (by decide +kernel) rfl), by decide⟩
theorem cwb_X10_gain : CwB yX10_gain cX10_gain 6 (some .int) 5 := ⟨⟨by decide +kernel, by decide +kernel, by decide +kernel⟩, in_g 1074 (by decide +kernel) rfl, (in_g 51 (by decide +kernel) rfl), by decide⟩
theorem cwb_X10_isRest : CwB yX10_isRest cX10_isRest 5 (some .boolean) 4 := ⟨⟨by decide +kernel, by decide +kernel, by decide +kernel⟩, in_g 1070 (by decide +kernel) rfl, (in_g 51 (by decide +kernel) rfl), by decide⟩
theorem cwb_X10_rests : CwB yX10_rests cX10_rests 7 (some .int) 3 := ⟨⟨by decide +kernel, by decide +kernel, by decide +kernel⟩, in_g 1066 (by decide +kernel) rfl, (in_g 51 (by decide +kernel) rfl), by decide⟩
theorem cwb_X10_skipped : CwB yX10_skipped cX10_skipped 10 (some .int) 4 := ⟨⟨by decide +kernel, by decide +kernel, by decide +kernel⟩, in_g 1078 (by decide +kernel) rfl, (in_g 51 (by decide +kernel) rfl), by decide⟩
theorem cwb_X10_seed : CwB yX10_seed cX10_seed 5 (some .long) 1 := ⟨⟨by decide +kernel, by decide +kernel, by decide +kernel⟩, in_g 1083 (by decide +kernel) rfl, (in_g 51 (by decide +kernel) rfl), by decide⟩
theorem cwb_X10_years : CwB yX10_years cX10_years 5 (some .int) 1 := ⟨⟨by decide +kernel, by decide +kernel, by decide +kernel⟩, in_g 1087 (by decide +kernel) rfl, (in_g 51 (by decide +kernel) rfl), by decide⟩
theorem cwb_X10_keep : CwB yX10_keep cX10_keep 3 (some .int) 1 := ⟨⟨by decide +kernel, by decide +kernel, by decide +kernel⟩, in_g 1099 (by decide +kernel) rfl, (in_g 51 (by decide +kernel) rfl), by decide⟩
theorem cwb_X10_again : CwB yX10_again cX10_again 3 (some .int) 1 := ⟨⟨by decide +kernel, by decide +kernel, by decide +kernel⟩, in_g 1103 (by decide +kernel) rfl, (in_g 51 (by decide +kernel) rfl), by decide⟩
theorem cwb_X10_fullPens : CwB yX10_fullPens cX10_fullPens 3 (some .int) 0 := ⟨⟨by decide +kernel, by decide +kernel, by decide +kernel⟩, in_g 1111 (by decide +kernel) rfl, (in_g 51 (by decide +kernel) rfl), by decide⟩
theorem cwb_X10_count : CwB yX10_count cX10_count 2 (some .int) 1 := ⟨⟨by decide +kernel, by decide +kernel, by decide +kernel⟩, in_g 1107 (by decide +kernel) rfl, (in_g 51 (by decide +kernel) rfl), by decide⟩
theorem cwb_J6_bitCount_0f7a4 : CwB yJ6_bitCount_0f7a4 cJ6_bitCount_0f7a4 1 (some .int) 1 := ⟨⟨by decide +kernel, by decide +kernel, by decide +kernel⟩, in_g 679 (by decide +kernel) rfl, (in_g 55 (by decide +kernel) rfl), by decide⟩
theorem cwb_J9_floorMod_7cf53 : CwB yJ9_floorMod_7cf53 cJ9_floorMod_7cf53 3 (some .int) 2 := ⟨⟨by decide +kernel, by decide +kernel, by decide +kernel⟩, in_g 509 (by decide +kernel) rfl, (in_g 53 (by decide +kernel) rfl), by decide⟩
theorem cwb_J9_abs_0f7a4 : CwB yJ9_abs_0f7a4 cJ9_abs_0f7a4 1 (some .int) 1 := ⟨⟨by decide +kernel, by decide +kernel, by decide +kernel⟩, in_g 477 (by decide +kernel) rfl, (in_g 53 (by decide +kernel) rfl), by decide⟩
theorem cwb_J9_min_7cf53 : CwB yJ9_min_7cf53 cJ9_min_7cf53 2 (some .int) 2 := ⟨⟨by decide +kernel, by decide +kernel, by decide +kernel⟩, in_g 409 (by decide +kernel) rfl, (in_g 53 (by decide +kernel) rfl), by decide⟩
theorem cwb_J7_fill_53178 : CwB yJ7_fill_53178 cJ7_fill_53178 4 none 2 := ⟨⟨by decide +kernel, by decide +kernel, by decide +kernel⟩, in_g 361 (by decide +kernel) rfl, (in_g 52 (by decide +kernel) rfl), by decide⟩
theorem cw_RL_13 : CwV RL 13 yX9_write cX9_write 2 (some .int) 1 := ⟨cwb_X9_write, (in_g 303 (by decide +kernel) rfl), (in_g 304 (by decide +kernel) rfl), (in_g 305 (by decide +kernel) rfl)⟩
theorem cw_RX9_68 : CwS RX9 68 yX9_isWithin cX9_isWithin 2 (some .boolean) 2 := ⟨cwb_X9_isWithin, (in_g 307 (by decide +kernel) rfl), (in_g 308 (by decide +kernel) rfl)⟩
theorem cw_RX9_72 : CwV RX9 72 yX6_add cX6_add 2 (some .boolean) 1 := ⟨cwb_X6_add, (in_g 310 (by decide +kernel) rfl), (in_g 311 (by decide +kernel) rfl), (in_g 312 (by decide +kernel) rfl)⟩
theorem cw_RL_18 : CwV RL 18 yX9_wipe cX9_wipe 2 (some .int) 0 := ⟨cwb_X9_wipe, (in_g 314 (by decide +kernel) rfl), (in_g 315 (by decide +kernel) rfl), (in_g 316 (by decide +kernel) rfl)⟩
theorem cw_RL_23 : CwV RL 23 yX9_fault cX9_fault 1 (some .int) 0 := ⟨cwb_X9_fault, (in_g 318 (by decide +kernel) rfl), (in_g 319 (by decide +kernel) rfl), (in_g 320 (by decide +kernel) rfl)⟩
theorem cw_RX9_80 : CwV RX9 80 yX6_findFault cX6_findFault 7 (some .int) 0 := ⟨cwb_X6_findFault, (in_g 322 (by decide +kernel) rfl), (in_g 323 (by decide +kernel) rfl), (in_g 324 (by decide +kernel) rfl)⟩
theorem cw_RX6_19 : CwV RX6 19 yX6_letterAt cX6_letterAt 2 (some .int) 1 := ⟨cwb_X6_letterAt, (in_g 326 (by decide +kernel) rfl), (in_g 327 (by decide +kernel) rfl), (in_g 328 (by decide +kernel) rfl)⟩
theorem cw_RX6_29 : CwV RX6 29 yX6_findFaultIn cX6_findFaultIn 5 (some .int) 2 := ⟨cwb_X6_findFaultIn, (in_g 334 (by decide +kernel) rfl), (in_g 336 (by decide +kernel) rfl), (in_g 0 (by decide +kernel) rfl)⟩
theorem cw_RX6_33 : CwV RX6 33 yX6_figureAt cX6_figureAt 2 (some .int) 1 := ⟨cwb_X6_figureAt, (in_g 338 (by decide +kernel) rfl), (in_g 339 (by decide +kernel) rfl), (in_g 340 (by decide +kernel) rfl)⟩
theorem cw_RX6_36 : CwN RX6 36 yX9_isWithin cX9_isWithin 2 (some .boolean) 2 := ⟨cwb_X9_isWithin, in_n 342 (by decide +kernel) rfl, (in_g 308 (by decide +kernel) rfl)⟩
theorem cw_RX6_40 : CwV RX6 40 yX6_isNoNib cX6_isNoNib 3 (some .boolean) 2 := ⟨cwb_X6_isNoNib, (in_g 343 (by decide +kernel) rfl), (in_g 345 (by decide +kernel) rfl), (in_g 1 (by decide +kernel) rfl)⟩
theorem cw_RL_27 : CwV RL 27 yX9_desk cX9_desk 2 (some .int) 0 := ⟨cwb_X9_desk, (in_g 347 (by decide +kernel) rfl), (in_g 348 (by decide +kernel) rfl), (in_g 349 (by decide +kernel) rfl)⟩
theorem cw_RX9_84 : CwV RX9 84 yX6_layOut cX6_layOut 3 none 1 := ⟨cwb_X6_layOut, (in_g 351 (by decide +kernel) rfl), (in_g 352 (by decide +kernel) rfl), (in_g 353 (by decide +kernel) rfl)⟩
theorem cw_RX6_43 : CwV RX6 43 yX4_clear cX4_clear 1 none 0 := ⟨cwb_X4_clear, (in_g 355 (by decide +kernel) rfl), (in_g 356 (by decide +kernel) rfl), (in_g 357 (by decide +kernel) rfl)⟩
theorem cw_RX4_29 : CwS RX4 29 yJ7_fill_53178 cJ7_fill_53178 4 none 2 := ⟨cwb_J7_fill_53178, (in_g 359 (by decide +kernel) rfl), (in_g 360 (by decide +kernel) rfl)⟩
theorem cw_RX6_48 : CwV RX6 48 yX6_layPen cX6_layPen 4 none 2 := ⟨cwb_X6_layPen, (in_g 362 (by decide +kernel) rfl), (in_g 364 (by decide +kernel) rfl), (in_g 2 (by decide +kernel) rfl)⟩
theorem cw_RX6_56 : CwV RX6 56 yX4_addPen cX4_addPen 1 (some (.object "BroadNib$Pen")) 0 := ⟨cwb_X4_addPen, (in_g 366 (by decide +kernel) rfl), (in_g 367 (by decide +kernel) rfl), (in_g 368 (by decide +kernel) rfl)⟩
theorem cw_RX6_52 : CwV RX6 52 yX4_setInk cX4_setInk 3 none 2 := ⟨cwb_X4_setInk, (in_g 370 (by decide +kernel) rfl), (in_g 371 (by decide +kernel) rfl), (in_g 372 (by decide +kernel) rfl)⟩
theorem cw_RX4_51 : CwN RX4 51 yX9_isDot cX9_isDot 1 (some .boolean) 1 := ⟨cwb_X9_isDot, in_n 374 (by decide +kernel) rfl, (in_g 375 (by decide +kernel) rfl)⟩
theorem cw_RX9_88 : CwV RX9 88 yX1_forgetAll cX1_forgetAll 1 none 0 := ⟨cwb_X1_forgetAll, (in_g 377 (by decide +kernel) rfl), (in_g 378 (by decide +kernel) rfl), (in_g 379 (by decide +kernel) rfl)⟩
theorem cw_RL_33 : CwV RL 33 yX9_word cX9_word 5 (some .int) 2 := ⟨cwb_X9_word, (in_g 381 (by decide +kernel) rfl), (in_g 382 (by decide +kernel) rfl), (in_g 383 (by decide +kernel) rfl)⟩
theorem cw_RX9_98 : CwS RX9 98 yX9_hasFigures cX9_hasFigures 3 (some .boolean) 2 := ⟨cwb_X9_hasFigures, (in_g 385 (by decide +kernel) rfl), (in_g 386 (by decide +kernel) rfl)⟩
theorem cw_RX9_261 : CwS RX9 261 yX9_tens cX9_tens 1 (some .long) 1 := ⟨cwb_X9_tens, (in_g 388 (by decide +kernel) rfl), (in_g 389 (by decide +kernel) rfl)⟩
theorem cw_RX9_102 : CwS RX9 102 yX8_isOfDirections cX8_isOfDirections 4 (some .boolean) 2 := ⟨cwb_X8_isOfDirections, (in_g 393 (by decide +kernel) rfl), (in_g 394 (by decide +kernel) rfl)⟩
theorem cw_RX8_15 : CwN RX8 15 yX9_figure cX9_figure 3 (some .int) 2 := ⟨cwb_X9_figure, in_n 396 (by decide +kernel) rfl, (in_g 397 (by decide +kernel) rfl)⟩
theorem cw_RX8_19 : CwN RX8 19 yX9_isDirection cX9_isDirection 1 (some .boolean) 1 := ⟨cwb_X9_isDirection, in_n 400 (by decide +kernel) rfl, (in_g 401 (by decide +kernel) rfl)⟩
theorem cw_RX9_107 : CwV RX9 107 yX8_tell cX8_tell 5 none 2 := ⟨cwb_X8_tell, (in_g 403 (by decide +kernel) rfl), (in_g 404 (by decide +kernel) rfl), (in_g 405 (by decide +kernel) rfl)⟩
theorem cw_RX8_23 : CwS RX8 23 yJ9_min_7cf53 cJ9_min_7cf53 2 (some .int) 2 := ⟨cwb_J9_min_7cf53, (in_g 407 (by decide +kernel) rfl), (in_g 408 (by decide +kernel) rfl)⟩
theorem cw_RL_38 : CwV RL 38 yX9_pen cX9_pen 4 (some .int) 2 := ⟨cwb_X9_pen, (in_g 410 (by decide +kernel) rfl), (in_g 411 (by decide +kernel) rfl), (in_g 412 (by decide +kernel) rfl)⟩
theorem cw_RX9_111 : CwV RX9 111 yX4_find cX4_find 2 (some (.object "BroadNib$Pen")) 1 := ⟨cwb_X4_find, (in_g 414 (by decide +kernel) rfl), (in_g 415 (by decide +kernel) rfl), (in_g 416 (by decide +kernel) rfl)⟩
theorem cw_RX9_123 : CwV RX9 123 yX2_toldNib cX2_toldNib 1 (some .int) 0 := ⟨cwb_X2_toldNib, (in_g 418 (by decide +kernel) rfl), (in_g 419 (by decide +kernel) rfl), (in_g 420 (by decide +kernel) rfl)⟩
theorem cw_RX9_135 : CwV RX9 135 yX9_placeOfStop cX9_placeOfStop 4 (some .int) 1 := ⟨cwb_X9_placeOfStop, (in_g 422 (by decide +kernel) rfl), (in_g 424 (by decide +kernel) rfl), (in_g 3 (by decide +kernel) rfl)⟩
theorem cw_RX9_185 : CwV RX9 185 yX9_tried cX9_tried 2 (some (.object "BroadNib$Pen")) 1 := ⟨cwb_X9_tried, (in_g 426 (by decide +kernel) rfl), (in_g 428 (by decide +kernel) rfl), (in_g 4 (by decide +kernel) rfl)⟩
theorem cw_RX9_215 : CwV RX9 215 yX4_copy cX4_copy 3 none 1 := ⟨cwb_X4_copy, (in_g 430 (by decide +kernel) rfl), (in_g 431 (by decide +kernel) rfl), (in_g 432 (by decide +kernel) rfl)⟩
theorem cw_RX4_41 : CwV RX4 41 yX2_copy cX2_copy 2 none 1 := ⟨cwb_X2_copy, (in_g 437 (by decide +kernel) rfl), (in_g 438 (by decide +kernel) rfl), (in_g 439 (by decide +kernel) rfl)⟩
theorem cw_RX9_188 : CwV RX9 188 yX4_follow cX4_follow 6 (some .int) 3 := ⟨cwb_X4_follow, (in_g 441 (by decide +kernel) rfl), (in_g 442 (by decide +kernel) rfl), (in_g 443 (by decide +kernel) rfl)⟩
theorem cw_RX4_73 : CwS RX4 73 yJ9_min_7cf53 cJ9_min_7cf53 2 (some .int) 2 := ⟨cwb_J9_min_7cf53, (in_g 445 (by decide +kernel) rfl), (in_g 408 (by decide +kernel) rfl)⟩
theorem cw_RX4_83 : CwV RX4 83 yX8_at cX8_at 2 (some .int) 1 := ⟨cwb_X8_at, (in_g 446 (by decide +kernel) rfl), (in_g 447 (by decide +kernel) rfl), (in_g 448 (by decide +kernel) rfl)⟩
theorem cw_RX8_33 : CwN RX8 33 yX9_isWithin cX9_isWithin 2 (some .boolean) 2 := ⟨cwb_X9_isWithin, in_n 450 (by decide +kernel) rfl, (in_g 308 (by decide +kernel) rfl)⟩
theorem cw_RX4_86 : CwV RX4 86 yX4_move cX4_move 5 (some .int) 2 := ⟨cwb_X4_move, (in_g 451 (by decide +kernel) rfl), (in_g 452 (by decide +kernel) rfl), (in_g 453 (by decide +kernel) rfl)⟩
theorem cw_RX4_66 : CwN RX4 66 yX9_neighbour cX9_neighbour 4 (some .int) 2 := ⟨cwb_X9_neighbour, in_n 455 (by decide +kernel) rfl, (in_g 456 (by decide +kernel) rfl)⟩
theorem cw_RX9_139 : CwS RX9 139 yX9_isDot cX9_isDot 1 (some .boolean) 1 := ⟨cwb_X9_isDot, (in_g 458 (by decide +kernel) rfl), (in_g 375 (by decide +kernel) rfl)⟩
theorem cw_RX9_145 : CwS RX9 145 yX9_isDirection cX9_isDirection 1 (some .boolean) 1 := ⟨cwb_X9_isDirection, (in_g 459 (by decide +kernel) rfl), (in_g 401 (by decide +kernel) rfl)⟩
theorem cw_RX4_70 : CwV RX4 70 yX2_lays cX2_lays 3 (some .int) 2 := ⟨cwb_X2_lays, (in_g 464 (by decide +kernel) rfl), (in_g 465 (by decide +kernel) rfl), (in_g 466 (by decide +kernel) rfl)⟩
theorem cw_RX2_55 : CwV RX2 55 yX2_across cX2_across 3 (some .int) 1 := ⟨cwb_X2_across, (in_g 468 (by decide +kernel) rfl), (in_g 469 (by decide +kernel) rfl), (in_g 470 (by decide +kernel) rfl)⟩
theorem cw_RX2_34 : CwN RX2 34 yX9_isDirection cX9_isDirection 1 (some .boolean) 1 := ⟨cwb_X9_isDirection, in_n 472 (by decide +kernel) rfl, (in_g 401 (by decide +kernel) rfl)⟩
theorem cw_RX2_45 : CwS RX2 45 yJ9_abs_0f7a4 cJ9_abs_0f7a4 1 (some .int) 1 := ⟨cwb_J9_abs_0f7a4, (in_g 475 (by decide +kernel) rfl), (in_g 476 (by decide +kernel) rfl)⟩
theorem cw_RX2_51 : CwS RX2 51 yJ9_min_7cf53 cJ9_min_7cf53 2 (some .int) 2 := ⟨cwb_J9_min_7cf53, (in_g 478 (by decide +kernel) rfl), (in_g 408 (by decide +kernel) rfl)⟩
theorem cw_RX4_55 : CwV RX4 55 yX4_inkOn cX4_inkOn 2 (some .int) 1 := ⟨cwb_X4_inkOn, (in_g 479 (by decide +kernel) rfl), (in_g 480 (by decide +kernel) rfl), (in_g 481 (by decide +kernel) rfl)⟩
theorem cw_RX4_59 : CwV RX4 59 yX4_setInk cX4_setInk 3 none 2 := ⟨cwb_X4_setInk, (in_g 483 (by decide +kernel) rfl), (in_g 371 (by decide +kernel) rfl), (in_g 372 (by decide +kernel) rfl)⟩
theorem cw_RL_43 : CwV RL 43 yX9_dot cX9_dot 2 (some .int) 1 := ⟨cwb_X9_dot, (in_g 484 (by decide +kernel) rfl), (in_g 485 (by decide +kernel) rfl), (in_g 486 (by decide +kernel) rfl)⟩
theorem cw_RX9_142 : CwV RX9 142 yX4_inkOn cX4_inkOn 2 (some .int) 1 := ⟨cwb_X4_inkOn, (in_g 488 (by decide +kernel) rfl), (in_g 480 (by decide +kernel) rfl), (in_g 481 (by decide +kernel) rfl)⟩
theorem cw_RL_47 : CwV RL 47 yX9_thick cX9_thick 4 (some .int) 2 := ⟨cwb_X9_thick, (in_g 489 (by decide +kernel) rfl), (in_g 490 (by decide +kernel) rfl), (in_g 491 (by decide +kernel) rfl)⟩
theorem cw_RX9_148 : CwV RX9 148 yX2_across cX2_across 3 (some .int) 1 := ⟨cwb_X2_across, (in_g 493 (by decide +kernel) rfl), (in_g 469 (by decide +kernel) rfl), (in_g 470 (by decide +kernel) rfl)⟩
theorem cw_RL_51 : CwV RL 51 yX9_step cX9_step 5 (some .int) 2 := ⟨cwb_X9_step, (in_g 494 (by decide +kernel) rfl), (in_g 495 (by decide +kernel) rfl), (in_g 496 (by decide +kernel) rfl)⟩
theorem cw_RX9_151 : CwS RX9 151 yX9_neighbour cX9_neighbour 4 (some .int) 2 := ⟨cwb_X9_neighbour, (in_g 498 (by decide +kernel) rfl), (in_g 456 (by decide +kernel) rfl)⟩
theorem cw_RX9_155 : CwV RX9 155 yX1_note cX1_note 4 none 3 := ⟨cwb_X1_note, (in_g 499 (by decide +kernel) rfl), (in_g 500 (by decide +kernel) rfl), (in_g 501 (by decide +kernel) rfl)⟩
theorem cw_RX1_31 : CwV RX1 31 yX1_at cX1_at 2 (some (.object "BroadNib$Act")) 1 := ⟨cwb_X1_at, (in_g 503 (by decide +kernel) rfl), (in_g 505 (by decide +kernel) rfl), (in_g 5 (by decide +kernel) rfl)⟩
theorem cw_RX1_22 : CwS RX1 22 yJ9_floorMod_7cf53 cJ9_floorMod_7cf53 3 (some .int) 2 := ⟨cwb_J9_floorMod_7cf53, (in_g 507 (by decide +kernel) rfl), (in_g 508 (by decide +kernel) rfl)⟩
theorem cw_RX1_35 : CwV RX1 35 yX0_note cX0_note 5 none 3 := ⟨cwb_X0_note, (in_g 510 (by decide +kernel) rfl), (in_g 511 (by decide +kernel) rfl), (in_g 512 (by decide +kernel) rfl)⟩
theorem cw_RX0_23 : CwV RX0 23 yX4_inkOn cX4_inkOn 2 (some .int) 1 := ⟨cwb_X4_inkOn, (in_g 514 (by decide +kernel) rfl), (in_g 480 (by decide +kernel) rfl), (in_g 481 (by decide +kernel) rfl)⟩
theorem cw_RX0_38 : CwV RX0 38 yX4_find cX4_find 2 (some (.object "BroadNib$Pen")) 1 := ⟨cwb_X4_find, (in_g 515 (by decide +kernel) rfl), (in_g 415 (by decide +kernel) rfl), (in_g 416 (by decide +kernel) rfl)⟩
theorem cw_RX0_42 : CwV RX0 42 yX2_copy cX2_copy 2 none 1 := ⟨cwb_X2_copy, (in_g 516 (by decide +kernel) rfl), (in_g 438 (by decide +kernel) rfl), (in_g 439 (by decide +kernel) rfl)⟩
theorem cw_RX9_159 : CwV RX9 159 yX4_move cX4_move 5 (some .int) 2 := ⟨cwb_X4_move, (in_g 517 (by decide +kernel) rfl), (in_g 452 (by decide +kernel) rfl), (in_g 453 (by decide +kernel) rfl)⟩
theorem cw_RL_55 : CwV RL 55 yX9_put cX9_put 3 (some .int) 1 := ⟨cwb_X9_put, (in_g 518 (by decide +kernel) rfl), (in_g 519 (by decide +kernel) rfl), (in_g 520 (by decide +kernel) rfl)⟩
theorem cw_RX9_163 : CwV RX9 163 yX2_flip cX2_flip 1 none 0 := ⟨cwb_X2_flip, (in_g 522 (by decide +kernel) rfl), (in_g 523 (by decide +kernel) rfl), (in_g 524 (by decide +kernel) rfl)⟩
theorem cw_RL_59 : CwV RL 59 yX9_dip cX9_dip 3 (some .int) 1 := ⟨cwb_X9_dip, (in_g 526 (by decide +kernel) rfl), (in_g 527 (by decide +kernel) rfl), (in_g 528 (by decide +kernel) rfl)⟩
theorem cw_RX9_166 : CwV RX9 166 yX2_isFull cX2_isFull 1 (some .boolean) 0 := ⟨cwb_X2_isFull, (in_g 530 (by decide +kernel) rfl), (in_g 531 (by decide +kernel) rfl), (in_g 532 (by decide +kernel) rfl)⟩
theorem cw_RX9_170 : CwV RX9 170 yX2_refill cX2_refill 2 (some .int) 0 := ⟨cwb_X2_refill, (in_g 534 (by decide +kernel) rfl), (in_g 535 (by decide +kernel) rfl), (in_g 536 (by decide +kernel) rfl)⟩
theorem cw_RL_63 : CwV RL 63 yX9_turn cX9_turn 3 (some .int) 1 := ⟨cwb_X9_turn, (in_g 538 (by decide +kernel) rfl), (in_g 539 (by decide +kernel) rfl), (in_g 540 (by decide +kernel) rfl)⟩
theorem cw_RX9_173 : CwV RX9 173 yX2_quarter cX2_quarter 2 none 0 := ⟨cwb_X2_quarter, (in_g 542 (by decide +kernel) rfl), (in_g 543 (by decide +kernel) rfl), (in_g 544 (by decide +kernel) rfl)⟩
theorem cw_RL_67 : CwV RL 67 yX9_blot cX9_blot 2 (some .int) 1 := ⟨cwb_X9_blot, (in_g 546 (by decide +kernel) rfl), (in_g 547 (by decide +kernel) rfl), (in_g 548 (by decide +kernel) rfl)⟩
theorem cw_RX9_176 : CwV RX9 176 yX4_clean cX4_clean 3 (some .int) 1 := ⟨cwb_X4_clean, (in_g 550 (by decide +kernel) rfl), (in_g 551 (by decide +kernel) rfl), (in_g 552 (by decide +kernel) rfl)⟩
theorem cw_RL_71 : CwV RL 71 yX9_undo cX9_undo 1 (some .int) 0 := ⟨cwb_X9_undo, (in_g 554 (by decide +kernel) rfl), (in_g 555 (by decide +kernel) rfl), (in_g 556 (by decide +kernel) rfl)⟩
theorem cw_RX9_182 : CwV RX9 182 yX1_takeBackLast cX1_takeBackLast 2 none 1 := ⟨cwb_X1_takeBackLast, (in_g 558 (by decide +kernel) rfl), (in_g 559 (by decide +kernel) rfl), (in_g 560 (by decide +kernel) rfl)⟩
theorem cw_RX1_39 : CwV RX1 39 yX0_takeBack cX0_takeBack 3 none 1 := ⟨cwb_X0_takeBack, (in_g 562 (by decide +kernel) rfl), (in_g 563 (by decide +kernel) rfl), (in_g 564 (by decide +kernel) rfl)⟩
theorem cw_RX0_46 : CwV RX0 46 yX4_setInk cX4_setInk 3 none 2 := ⟨cwb_X4_setInk, (in_g 566 (by decide +kernel) rfl), (in_g 371 (by decide +kernel) rfl), (in_g 372 (by decide +kernel) rfl)⟩
theorem cw_RL_75 : CwV RL 75 yX9_behind cX9_behind 6 (some .int) 3 := ⟨cwb_X9_behind, (in_g 567 (by decide +kernel) rfl), (in_g 568 (by decide +kernel) rfl), (in_g 569 (by decide +kernel) rfl)⟩
theorem cw_RL_80 : CwV RL 80 yX9_least cX9_least 5 (some .int) 3 := ⟨cwb_X9_least, (in_g 571 (by decide +kernel) rfl), (in_g 572 (by decide +kernel) rfl), (in_g 573 (by decide +kernel) rfl)⟩
theorem cw_RX9_192 : CwV RX9 192 yX7_reckonTo cX7_reckonTo 5 none 2 := ⟨cwb_X7_reckonTo, (in_g 575 (by decide +kernel) rfl), (in_g 576 (by decide +kernel) rfl), (in_g 577 (by decide +kernel) rfl)⟩
theorem cw_RX7_30 : CwV RX7 30 yX2_across cX2_across 3 (some .int) 1 := ⟨cwb_X2_across, (in_g 579 (by decide +kernel) rfl), (in_g 469 (by decide +kernel) rfl), (in_g 470 (by decide +kernel) rfl)⟩
theorem cw_RX7_37 : CwV RX7 37 yX7_isLowered cX7_isLowered 5 (some .boolean) 0 := ⟨cwb_X7_isLowered, (in_g 581 (by decide +kernel) rfl), (in_g 583 (by decide +kernel) rfl), (in_g 6 (by decide +kernel) rfl)⟩
theorem cw_RX7_41 : CwV RX7 41 yX7_costBy cX7_costBy 4 (some .int) 2 := ⟨cwb_X7_costBy, (in_g 585 (by decide +kernel) rfl), (in_g 587 (by decide +kernel) rfl), (in_g 7 (by decide +kernel) rfl)⟩
theorem cw_RX7_45 : CwN RX7 45 yX9_neighbour cX9_neighbour 4 (some .int) 2 := ⟨cwb_X9_neighbour, in_n 589 (by decide +kernel) rfl, (in_g 456 (by decide +kernel) rfl)⟩
theorem cw_RX7_48 : CwN RX7 48 yX9_isDot cX9_isDot 1 (some .boolean) 1 := ⟨cwb_X9_isDot, in_n 590 (by decide +kernel) rfl, (in_g 375 (by decide +kernel) rfl)⟩
theorem cw_RX7_52 : CwN RX7 52 yX9_isDirection cX9_isDirection 1 (some .boolean) 1 := ⟨cwb_X9_isDirection, in_n 591 (by decide +kernel) rfl, (in_g 401 (by decide +kernel) rfl)⟩
theorem cw_RX9_196 : CwV RX9 196 yX7_inkFrom cX7_inkFrom 2 (some .int) 1 := ⟨cwb_X7_inkFrom, (in_g 592 (by decide +kernel) rfl), (in_g 593 (by decide +kernel) rfl), (in_g 594 (by decide +kernel) rfl)⟩
theorem cw_RX7_55 : CwV RX7 55 yX7_costFrom cX7_costFrom 2 (some .int) 1 := ⟨cwb_X7_costFrom, (in_g 596 (by decide +kernel) rfl), (in_g 598 (by decide +kernel) rfl), (in_g 8 (by decide +kernel) rfl)⟩
theorem cw_RX9_199 : CwV RX9 199 yX7_stepsFrom cX7_stepsFrom 2 (some .int) 1 := ⟨cwb_X7_stepsFrom, (in_g 600 (by decide +kernel) rfl), (in_g 601 (by decide +kernel) rfl), (in_g 602 (by decide +kernel) rfl)⟩
theorem cw_RX9_202 : CwV RX9 202 yX7_directionFrom cX7_directionFrom 4 (some .int) 1 := ⟨cwb_X7_directionFrom, (in_g 604 (by decide +kernel) rfl), (in_g 605 (by decide +kernel) rfl), (in_g 606 (by decide +kernel) rfl)⟩
theorem cw_RL_84 : CwV RL 84 yX9_rings cX9_rings 5 (some .int) 3 := ⟨cwb_X9_rings, (in_g 608 (by decide +kernel) rfl), (in_g 609 (by decide +kernel) rfl), (in_g 610 (by decide +kernel) rfl)⟩
theorem cw_RX9_205 : CwV RX9 205 yX7_walk cX7_walk 4 none 2 := ⟨cwb_X7_walk, (in_g 612 (by decide +kernel) rfl), (in_g 613 (by decide +kernel) rfl), (in_g 614 (by decide +kernel) rfl)⟩
theorem cw_RX7_62 : CwV RX7 62 yX7_walkOne cX7_walkOne 6 none 1 := ⟨cwb_X7_walkOne, (in_g 616 (by decide +kernel) rfl), (in_g 618 (by decide +kernel) rfl), (in_g 9 (by decide +kernel) rfl)⟩
theorem cw_RX7_66 : CwS RX7 66 yJ7_fill_53178 cJ7_fill_53178 4 none 2 := ⟨cwb_J7_fill_53178, (in_g 620 (by decide +kernel) rfl), (in_g 360 (by decide +kernel) rfl)⟩
theorem cw_RX7_72 : CwS RX7 72 yJ9_min_7cf53 cJ9_min_7cf53 2 (some .int) 2 := ⟨cwb_J9_min_7cf53, (in_g 621 (by decide +kernel) rfl), (in_g 408 (by decide +kernel) rfl)⟩
theorem cw_RX9_209 : CwV RX9 209 yX7_rowsTo cX7_rowsTo 2 (some .int) 1 := ⟨cwb_X7_rowsTo, (in_g 623 (by decide +kernel) rfl), (in_g 624 (by decide +kernel) rfl), (in_g 625 (by decide +kernel) rfl)⟩
theorem cw_RX9_212 : CwV RX9 212 yX7_lowestTo cX7_lowestTo 2 (some .int) 1 := ⟨cwb_X7_lowestTo, (in_g 627 (by decide +kernel) rfl), (in_g 628 (by decide +kernel) rfl), (in_g 629 (by decide +kernel) rfl)⟩
theorem cw_RL_88 : CwV RL 88 yX9_judge cX9_judge 6 (some .int) 2 := ⟨cwb_X9_judge, (in_g 631 (by decide +kernel) rfl), (in_g 632 (by decide +kernel) rfl), (in_g 633 (by decide +kernel) rfl)⟩
theorem cw_RX9_218 : CwS RX9 218 yX9_figure cX9_figure 3 (some .int) 2 := ⟨cwb_X9_figure, (in_g 635 (by decide +kernel) rfl), (in_g 397 (by decide +kernel) rfl)⟩
theorem cw_RX9_222 : CwV RX9 222 yX9_isDone cX9_isDone 6 (some .boolean) 3 := ⟨cwb_X9_isDone, (in_g 636 (by decide +kernel) rfl), (in_g 638 (by decide +kernel) rfl), (in_g 10 (by decide +kernel) rfl)⟩
theorem cw_RX9_297 : CwV RX9 297 yX4_isBlack cX4_isBlack 2 (some .boolean) 1 := ⟨cwb_X4_isBlack, (in_g 640 (by decide +kernel) rfl), (in_g 641 (by decide +kernel) rfl), (in_g 642 (by decide +kernel) rfl)⟩
theorem cw_RL_92 : CwV RL 92 yX9_see cX9_see 3 (some .int) 2 := ⟨cwb_X9_see, (in_g 644 (by decide +kernel) rfl), (in_g 645 (by decide +kernel) rfl), (in_g 646 (by decide +kernel) rfl)⟩
theorem cw_RX9_226 : CwV RX9 226 yX3_add cX3_add 3 (some .boolean) 2 := ⟨cwb_X3_add, (in_g 648 (by decide +kernel) rfl), (in_g 649 (by decide +kernel) rfl), (in_g 650 (by decide +kernel) rfl)⟩
theorem cw_RL_96 : CwV RL 96 yX9_unsee cX9_unsee 2 (some .int) 0 := ⟨cwb_X9_unsee, (in_g 652 (by decide +kernel) rfl), (in_g 653 (by decide +kernel) rfl), (in_g 654 (by decide +kernel) rfl)⟩
theorem cw_RL_100 : CwV RL 100 yX9_nibs cX9_nibs 2 (some .int) 1 := ⟨cwb_X9_nibs, (in_g 656 (by decide +kernel) rfl), (in_g 657 (by decide +kernel) rfl), (in_g 658 (by decide +kernel) rfl)⟩
theorem cw_RX9_229 : CwV RX9 229 yX3_countNibs cX3_countNibs 4 (some .int) 0 := ⟨cwb_X3_countNibs, (in_g 660 (by decide +kernel) rfl), (in_g 661 (by decide +kernel) rfl), (in_g 662 (by decide +kernel) rfl)⟩
theorem cw_RX3_29 : CwV RX3 29 yX3_fits cX3_fits 4 (some .boolean) 2 := ⟨cwb_X3_fits, (in_g 664 (by decide +kernel) rfl), (in_g 666 (by decide +kernel) rfl), (in_g 11 (by decide +kernel) rfl)⟩
theorem cw_RX3_39 : CwV RX3 39 yX2_across cX2_across 3 (some .int) 1 := ⟨cwb_X2_across, (in_g 668 (by decide +kernel) rfl), (in_g 469 (by decide +kernel) rfl), (in_g 470 (by decide +kernel) rfl)⟩
theorem cw_RX9_232 : CwV RX9 232 yX3_firstNib cX3_firstNib 3 (some .int) 0 := ⟨cwb_X3_firstNib, (in_g 669 (by decide +kernel) rfl), (in_g 670 (by decide +kernel) rfl), (in_g 671 (by decide +kernel) rfl)⟩
theorem cw_RL_104 : CwV RL 104 yX9_share cX9_share 7 (some .int) 2 := ⟨cwb_X9_share, (in_g 673 (by decide +kernel) rfl), (in_g 674 (by decide +kernel) rfl), (in_g 675 (by decide +kernel) rfl)⟩
theorem cw_RX9_235 : CwS RX9 235 yJ6_bitCount_0f7a4 cJ6_bitCount_0f7a4 1 (some .int) 1 := ⟨cwb_J6_bitCount_0f7a4, (in_g 677 (by decide +kernel) rfl), (in_g 678 (by decide +kernel) rfl)⟩
theorem cw_RX9_240 : CwS RX9 240 yX9_orders cX9_orders 1 (some .int) 1 := ⟨cwb_X9_orders, (in_g 683 (by decide +kernel) rfl), (in_g 684 (by decide +kernel) rfl)⟩
theorem cw_RX9_243 : CwV RX9 243 yX9_blackerBehind cX9_blackerBehind 4 (some .int) 2 := ⟨cwb_X9_blackerBehind, (in_g 688 (by decide +kernel) rfl), (in_g 690 (by decide +kernel) rfl), (in_g 12 (by decide +kernel) rfl)⟩
theorem cw_RX9_288 : CwV RX9 288 yX4_blackBits cX4_blackBits 3 (some .int) 0 := ⟨cwb_X4_blackBits, (in_g 692 (by decide +kernel) rfl), (in_g 693 (by decide +kernel) rfl), (in_g 694 (by decide +kernel) rfl)⟩
theorem cw_RX4_90 : CwV RX4 90 yX4_isBlack cX4_isBlack 2 (some .boolean) 1 := ⟨cwb_X4_isBlack, (in_g 696 (by decide +kernel) rfl), (in_g 641 (by decide +kernel) rfl), (in_g 642 (by decide +kernel) rfl)⟩
theorem cw_RX9_246 : CwS RX9 246 yX9_toldFraction cX9_toldFraction 7 (some .int) 3 := ⟨cwb_X9_toldFraction, (in_g 697 (by decide +kernel) rfl), (in_g 698 (by decide +kernel) rfl)⟩
theorem cw_RX9_324 : CwS RX9 324 yX9_commonDivisor cX9_commonDivisor 11 (some .long) 2 := ⟨cwb_X9_commonDivisor, (in_g 700 (by decide +kernel) rfl), (in_g 701 (by decide +kernel) rfl)⟩
theorem cw_RL_109 : CwV RL 109 yX9_rests cX9_rests 7 (some .int) 3 := ⟨cwb_X9_rests, (in_g 703 (by decide +kernel) rfl), (in_g 704 (by decide +kernel) rfl), (in_g 705 (by decide +kernel) rfl)⟩
theorem cw_RX9_250 : CwV RX9 250 yX9_reckonGains cX9_reckonGains 5 none 3 := ⟨cwb_X9_reckonGains, (in_g 707 (by decide +kernel) rfl), (in_g 709 (by decide +kernel) rfl), (in_g 13 (by decide +kernel) rfl)⟩
theorem cw_RX9_300 : CwV RX9 300 yX4_inkOf cX4_inkOf 3 (some .int) 1 := ⟨cwb_X4_inkOf, (in_g 711 (by decide +kernel) rfl), (in_g 712 (by decide +kernel) rfl), (in_g 713 (by decide +kernel) rfl)⟩
theorem cw_RX4_45 : CwV RX4 45 yX4_find cX4_find 2 (some (.object "BroadNib$Pen")) 1 := ⟨cwb_X4_find, (in_g 715 (by decide +kernel) rfl), (in_g 415 (by decide +kernel) rfl), (in_g 416 (by decide +kernel) rfl)⟩
theorem cw_RX9_254 : CwV RX9 254 yX9_isRest cX9_isRest 2 (some .boolean) 1 := ⟨cwb_X9_isRest, (in_g 716 (by decide +kernel) rfl), (in_g 718 (by decide +kernel) rfl), (in_g 14 (by decide +kernel) rfl)⟩
theorem cw_RL_113 : CwV RL 113 yX9_skipped cX9_skipped 6 (some .int) 4 := ⟨cwb_X9_skipped, (in_g 720 (by decide +kernel) rfl), (in_g 721 (by decide +kernel) rfl), (in_g 722 (by decide +kernel) rfl)⟩
theorem cw_RX9_257 : CwS RX9 257 yX9_casesOfEnough cX9_casesOfEnough 12 (some .long) 7 := ⟨cwb_X9_casesOfEnough, (in_g 724 (by decide +kernel) rfl), (in_g 725 (by decide +kernel) rfl)⟩
theorem cw_RX9_303 : CwV RX9 303 yX8_at cX8_at 2 (some .int) 1 := ⟨cwb_X8_at, (in_g 727 (by decide +kernel) rfl), (in_g 447 (by decide +kernel) rfl), (in_g 448 (by decide +kernel) rfl)⟩
theorem cw_RX9_306 : CwV RX9 306 yX2_lays cX2_lays 3 (some .int) 2 := ⟨cwb_X2_lays, (in_g 728 (by decide +kernel) rfl), (in_g 465 (by decide +kernel) rfl), (in_g 466 (by decide +kernel) rfl)⟩
theorem cw_RL_118 : CwV RL 118 yX9_seed cX9_seed 5 (some .long) 1 := ⟨cwb_X9_seed, (in_g 729 (by decide +kernel) rfl), (in_g 730 (by decide +kernel) rfl), (in_g 731 (by decide +kernel) rfl)⟩
theorem cw_RL_123 : CwV RL 123 yX9_years cX9_years 4 (some .int) 1 := ⟨cwb_X9_years, (in_g 733 (by decide +kernel) rfl), (in_g 734 (by decide +kernel) rfl), (in_g 735 (by decide +kernel) rfl)⟩
theorem cw_RX9_275 : CwV RX9 275 yX9_passYear cX9_passYear 3 none 1 := ⟨cwb_X9_passYear, (in_g 740 (by decide +kernel) rfl), (in_g 742 (by decide +kernel) rfl), (in_g 15 (by decide +kernel) rfl)⟩
theorem cw_RX9_279 : CwV RX9 279 yX4_inkOnAll cX4_inkOnAll 3 (some .int) 0 := ⟨cwb_X4_inkOnAll, (in_g 744 (by decide +kernel) rfl), (in_g 745 (by decide +kernel) rfl), (in_g 746 (by decide +kernel) rfl)⟩
theorem cw_RL_127 : CwV RL 127 yX9_keep cX9_keep 2 (some .int) 1 := ⟨cwb_X9_keep, (in_g 748 (by decide +kernel) rfl), (in_g 749 (by decide +kernel) rfl), (in_g 750 (by decide +kernel) rfl)⟩
theorem cw_RL_131 : CwV RL 131 yX9_again cX9_again 2 (some .int) 1 := ⟨cwb_X9_again, (in_g 752 (by decide +kernel) rfl), (in_g 753 (by decide +kernel) rfl), (in_g 754 (by decide +kernel) rfl)⟩
theorem cw_RL_135 : CwV RL 135 yX9_count cX9_count 2 (some .int) 1 := ⟨cwb_X9_count, (in_g 756 (by decide +kernel) rfl), (in_g 757 (by decide +kernel) rfl), (in_g 758 (by decide +kernel) rfl)⟩
theorem cw_RX9_291 : CwV RX9 291 yX4_downBits cX4_downBits 3 (some .int) 0 := ⟨cwb_X4_downBits, (in_g 760 (by decide +kernel) rfl), (in_g 761 (by decide +kernel) rfl), (in_g 762 (by decide +kernel) rfl)⟩
theorem cw_RX9_294 : CwV RX9 294 yX4_fullBits cX4_fullBits 3 (some .int) 0 := ⟨cwb_X4_fullBits, (in_g 764 (by decide +kernel) rfl), (in_g 765 (by decide +kernel) rfl), (in_g 766 (by decide +kernel) rfl)⟩
theorem cw_RX4_97 : CwV RX4 97 yX2_isFull cX2_isFull 1 (some .boolean) 0 := ⟨cwb_X2_isFull, (in_g 768 (by decide +kernel) rfl), (in_g 531 (by decide +kernel) rfl), (in_g 532 (by decide +kernel) rfl)⟩
theorem cw_RL_17 : CwV RL 17 yX10_write cX10_write 2 (some .int) 1 := ⟨cwb_X10_write, (in_g 852 (by decide +kernel) rfl), (in_g 853 (by decide +kernel) rfl), (in_g 854 (by decide +kernel) rfl)⟩
theorem cw_RX10_52 : CwS RX10 52 yX10_in cX10_in 6 (some .boolean) 3 := ⟨cwb_X10_in, (in_g 857 (by decide +kernel) rfl), (in_g 858 (by decide +kernel) rfl)⟩
theorem cw_RL_22 : CwV RL 22 yX10_wipe cX10_wipe 2 (some .int) 0 := ⟨cwb_X10_wipe, (in_g 860 (by decide +kernel) rfl), (in_g 861 (by decide +kernel) rfl), (in_g 862 (by decide +kernel) rfl)⟩
theorem cw_RL_26 : CwV RL 26 yX10_fault cX10_fault 1 (some .int) 0 := ⟨cwb_X10_fault, (in_g 864 (by decide +kernel) rfl), (in_g 865 (by decide +kernel) rfl), (in_g 866 (by decide +kernel) rfl)⟩
theorem cw_RX10_80 : CwV RX10 80 yX10_readText cX10_readText 1 (some .int) 0 := ⟨cwb_X10_readText, (in_g 868 (by decide +kernel) rfl), (in_g 870 (by decide +kernel) rfl), (in_g 16 (by decide +kernel) rfl)⟩
theorem cw_RX10_72 : CwV RX10 72 yX10_readPart cX10_readPart 4 none 1 := ⟨cwb_X10_readPart, (in_g 872 (by decide +kernel) rfl), (in_g 874 (by decide +kernel) rfl), (in_g 17 (by decide +kernel) rfl)⟩
theorem cw_RX10_76 : CwV RX10 76 yX10_figureOf cX10_figureOf 5 (some .int) 2 := ⟨cwb_X10_figureOf, (in_g 876 (by decide +kernel) rfl), (in_g 878 (by decide +kernel) rfl), (in_g 18 (by decide +kernel) rfl)⟩
theorem cw_RL_30 : CwV RL 30 yX10_desk cX10_desk 2 (some .int) 0 := ⟨cwb_X10_desk, (in_g 880 (by decide +kernel) rfl), (in_g 881 (by decide +kernel) rfl), (in_g 882 (by decide +kernel) rfl)⟩
theorem cw_RL_37 : CwV RL 37 yX10_word cX10_word 6 (some .int) 2 := ⟨cwb_X10_word, (in_g 884 (by decide +kernel) rfl), (in_g 885 (by decide +kernel) rfl), (in_g 886 (by decide +kernel) rfl)⟩
theorem cw_RX10_94 : CwS RX10 94 yX10_tenTo cX10_tenTo 4 (some .long) 1 := ⟨cwb_X10_tenTo, (in_g 889 (by decide +kernel) rfl), (in_g 890 (by decide +kernel) rfl)⟩
theorem cw_RL_42 : CwV RL 42 yX10_pen cX10_pen 3 (some .int) 2 := ⟨cwb_X10_pen, (in_g 894 (by decide +kernel) rfl), (in_g 895 (by decide +kernel) rfl), (in_g 896 (by decide +kernel) rfl)⟩
theorem cw_RX10_115 : CwV RX10 115 yX10_isPen cX10_isPen 2 (some .boolean) 1 := ⟨cwb_X10_isPen, (in_g 898 (by decide +kernel) rfl), (in_g 900 (by decide +kernel) rfl), (in_g 19 (by decide +kernel) rfl)⟩
theorem cw_RX10_147 : CwV RX10 147 yX10_nibOf cX10_nibOf 2 (some .int) 1 := ⟨cwb_X10_nibOf, (in_g 902 (by decide +kernel) rfl), (in_g 904 (by decide +kernel) rfl), (in_g 20 (by decide +kernel) rfl)⟩
theorem cw_RX10_150 : CwV RX10 150 yX10_stopsAt cX10_stopsAt 2 (some .int) 1 := ⟨cwb_X10_stopsAt, (in_g 906 (by decide +kernel) rfl), (in_g 908 (by decide +kernel) rfl), (in_g 21 (by decide +kernel) rfl)⟩
theorem cw_RX10_140 : CwV RX10 140 yX10_layTrial cX10_layTrial 2 none 0 := ⟨cwb_X10_layTrial, (in_g 910 (by decide +kernel) rfl), (in_g 912 (by decide +kernel) rfl), (in_g 22 (by decide +kernel) rfl)⟩
theorem cw_RX10_143 : CwV RX10 143 yX10_writeOn cX10_writeOn 7 (some .int) 4 := ⟨cwb_X10_writeOn, (in_g 914 (by decide +kernel) rfl), (in_g 916 (by decide +kernel) rfl), (in_g 23 (by decide +kernel) rfl)⟩
theorem cw_RX10_126 : CwS RX10 126 yX10_has cX10_has 2 (some .boolean) 2 := ⟨cwb_X10_has, (in_g 918 (by decide +kernel) rfl), (in_g 919 (by decide +kernel) rfl)⟩
theorem cw_RX10_133 : CwV RX10 133 yX10_canStep cX10_canStep 4 (some .boolean) 3 := ⟨cwb_X10_canStep, (in_g 921 (by decide +kernel) rfl), (in_g 923 (by decide +kernel) rfl), (in_g 24 (by decide +kernel) rfl)⟩
theorem cw_RX10_119 : CwS RX10 119 yX10_nextDot cX10_nextDot 4 (some .int) 2 := ⟨cwb_X10_nextDot, (in_g 925 (by decide +kernel) rfl), (in_g 926 (by decide +kernel) rfl)⟩
theorem cw_RX10_103 : CwS RX10 103 yX10_across cX10_across 1 (some .int) 1 := ⟨cwb_X10_across, (in_g 928 (by decide +kernel) rfl), (in_g 929 (by decide +kernel) rfl)⟩
theorem cw_RX10_107 : CwS RX10 107 yX10_upward cX10_upward 1 (some .int) 1 := ⟨cwb_X10_upward, (in_g 931 (by decide +kernel) rfl), (in_g 932 (by decide +kernel) rfl)⟩
theorem cw_RX10_137 : CwV RX10 137 yX10_stepOn cX10_stepOn 9 (some .int) 3 := ⟨cwb_X10_stepOn, (in_g 935 (by decide +kernel) rfl), (in_g 937 (by decide +kernel) rfl), (in_g 25 (by decide +kernel) rfl)⟩
theorem cw_RX10_122 : CwV RX10 122 yX10_thickOn cX10_thickOn 7 (some .int) 3 := ⟨cwb_X10_thickOn, (in_g 939 (by decide +kernel) rfl), (in_g 941 (by decide +kernel) rfl), (in_g 26 (by decide +kernel) rfl)⟩
theorem cw_RX10_112 : CwS RX10 112 yX10_size cX10_size 1 (some .int) 1 := ⟨cwb_X10_size, (in_g 943 (by decide +kernel) rfl), (in_g 944 (by decide +kernel) rfl)⟩
theorem cw_RL_46 : CwV RL 46 yX10_dot cX10_dot 2 (some .int) 1 := ⟨cwb_X10_dot, (in_g 946 (by decide +kernel) rfl), (in_g 947 (by decide +kernel) rfl), (in_g 948 (by decide +kernel) rfl)⟩
theorem cw_RL_50 : CwV RL 50 yX10_thick cX10_thick 3 (some .int) 2 := ⟨cwb_X10_thick, (in_g 951 (by decide +kernel) rfl), (in_g 952 (by decide +kernel) rfl), (in_g 953 (by decide +kernel) rfl)⟩
theorem cw_RL_54 : CwV RL 54 yX10_step cX10_step 3 (some .int) 2 := ⟨cwb_X10_step, (in_g 955 (by decide +kernel) rfl), (in_g 956 (by decide +kernel) rfl), (in_g 957 (by decide +kernel) rfl)⟩
theorem cw_RX10_158 : CwV RX10 158 yX10_keepAct cX10_keepAct 2 none 0 := ⟨cwb_X10_keepAct, (in_g 959 (by decide +kernel) rfl), (in_g 961 (by decide +kernel) rfl), (in_g 27 (by decide +kernel) rfl)⟩
theorem cw_RL_58 : CwV RL 58 yX10_put cX10_put 2 (some .int) 1 := ⟨cwb_X10_put, (in_g 963 (by decide +kernel) rfl), (in_g 964 (by decide +kernel) rfl), (in_g 965 (by decide +kernel) rfl)⟩
theorem cw_RL_62 : CwV RL 62 yX10_dip cX10_dip 3 (some .int) 1 := ⟨cwb_X10_dip, (in_g 967 (by decide +kernel) rfl), (in_g 968 (by decide +kernel) rfl), (in_g 969 (by decide +kernel) rfl)⟩
theorem cw_RL_66 : CwV RL 66 yX10_turn cX10_turn 2 (some .int) 1 := ⟨cwb_X10_turn, (in_g 971 (by decide +kernel) rfl), (in_g 972 (by decide +kernel) rfl), (in_g 973 (by decide +kernel) rfl)⟩
theorem cw_RX10_161 : CwV RX10 161 yX10_turnOn cX10_turnOn 5 none 2 := ⟨cwb_X10_turnOn, (in_g 975 (by decide +kernel) rfl), (in_g 977 (by decide +kernel) rfl), (in_g 28 (by decide +kernel) rfl)⟩
theorem cw_RL_70 : CwV RL 70 yX10_blot cX10_blot 3 (some .int) 1 := ⟨cwb_X10_blot, (in_g 979 (by decide +kernel) rfl), (in_g 980 (by decide +kernel) rfl), (in_g 981 (by decide +kernel) rfl)⟩
theorem cw_RL_74 : CwV RL 74 yX10_undo cX10_undo 2 (some .int) 0 := ⟨cwb_X10_undo, (in_g 983 (by decide +kernel) rfl), (in_g 984 (by decide +kernel) rfl), (in_g 985 (by decide +kernel) rfl)⟩
theorem cw_RL_79 : CwV RL 79 yX10_behind cX10_behind 5 (some .int) 3 := ⟨cwb_X10_behind, (in_g 987 (by decide +kernel) rfl), (in_g 988 (by decide +kernel) rfl), (in_g 989 (by decide +kernel) rfl)⟩
theorem cw_RL_83 : CwV RL 83 yX10_least cX10_least 4 (some .int) 3 := ⟨cwb_X10_least, (in_g 992 (by decide +kernel) rfl), (in_g 993 (by decide +kernel) rfl), (in_g 994 (by decide +kernel) rfl)⟩
theorem cw_RX10_168 : CwV RX10 168 yX10_findFar cX10_findFar 7 none 2 := ⟨cwb_X10_findFar, (in_g 996 (by decide +kernel) rfl), (in_g 998 (by decide +kernel) rfl), (in_g 29 (by decide +kernel) rfl)⟩
theorem cw_RX10_171 : CwV RX10 171 yX10_firstWay cX10_firstWay 5 (some .int) 1 := ⟨cwb_X10_firstWay, (in_g 1001 (by decide +kernel) rfl), (in_g 1003 (by decide +kernel) rfl), (in_g 30 (by decide +kernel) rfl)⟩
theorem cw_RL_87 : CwV RL 87 yX10_rings cX10_rings 9 (some .int) 3 := ⟨cwb_X10_rings, (in_g 1005 (by decide +kernel) rfl), (in_g 1006 (by decide +kernel) rfl), (in_g 1007 (by decide +kernel) rfl)⟩
theorem cw_RX10_174 : CwV RX10 174 yX10_ringBy cX10_ringBy 8 (some .int) 3 := ⟨cwb_X10_ringBy, (in_g 1009 (by decide +kernel) rfl), (in_g 1011 (by decide +kernel) rfl), (in_g 31 (by decide +kernel) rfl)⟩
theorem cw_RL_91 : CwV RL 91 yX10_judge cX10_judge 6 (some .int) 2 := ⟨cwb_X10_judge, (in_g 1013 (by decide +kernel) rfl), (in_g 1014 (by decide +kernel) rfl), (in_g 1015 (by decide +kernel) rfl)⟩
theorem cw_RX10_180 : CwS RX10 180 yX10_thousandTo cX10_thousandTo 1 (some .long) 1 := ⟨cwb_X10_thousandTo, (in_g 1017 (by decide +kernel) rfl), (in_g 1018 (by decide +kernel) rfl)⟩
theorem cw_RX10_185 : CwV RX10 185 yX10_tryThing cX10_tryThing 8 (some .boolean) 3 := ⟨cwb_X10_tryThing, (in_g 1021 (by decide +kernel) rfl), (in_g 1023 (by decide +kernel) rfl), (in_g 32 (by decide +kernel) rfl)⟩
theorem cw_RX10_177 : CwV RX10 177 yX10_writesAll cX10_writesAll 2 (some .boolean) 1 := ⟨cwb_X10_writesAll, (in_g 1025 (by decide +kernel) rfl), (in_g 1027 (by decide +kernel) rfl), (in_g 33 (by decide +kernel) rfl)⟩
theorem cw_RL_95 : CwV RL 95 yX10_see cX10_see 3 (some .int) 2 := ⟨cwb_X10_see, (in_g 1029 (by decide +kernel) rfl), (in_g 1030 (by decide +kernel) rfl), (in_g 1031 (by decide +kernel) rfl)⟩
theorem cw_RL_99 : CwV RL 99 yX10_unsee cX10_unsee 2 (some .int) 0 := ⟨cwb_X10_unsee, (in_g 1034 (by decide +kernel) rfl), (in_g 1035 (by decide +kernel) rfl), (in_g 1036 (by decide +kernel) rfl)⟩
theorem cw_RL_103 : CwV RL 103 yX10_nibs cX10_nibs 9 (some .int) 1 := ⟨cwb_X10_nibs, (in_g 1038 (by decide +kernel) rfl), (in_g 1039 (by decide +kernel) rfl), (in_g 1040 (by decide +kernel) rfl)⟩
theorem cw_RL_108 : CwV RL 108 yX10_share cX10_share 6 (some .int) 2 := ⟨cwb_X10_share, (in_g 1042 (by decide +kernel) rfl), (in_g 1043 (by decide +kernel) rfl), (in_g 1044 (by decide +kernel) rfl)⟩
theorem cw_RX10_196 : CwS RX10 196 yX10_ones cX10_ones 3 (some .int) 1 := ⟨cwb_X10_ones, (in_g 1046 (by decide +kernel) rfl), (in_g 1047 (by decide +kernel) rfl)⟩
theorem cw_RX10_199 : CwS RX10 199 yX10_factorial cX10_factorial 3 (some .int) 1 := ⟨cwb_X10_factorial, (in_g 1049 (by decide +kernel) rfl), (in_g 1050 (by decide +kernel) rfl)⟩
theorem cw_RX10_202 : CwV RX10 202 yX10_blackBy cX10_blackBy 3 (some .int) 1 := ⟨cwb_X10_blackBy, (in_g 1052 (by decide +kernel) rfl), (in_g 1054 (by decide +kernel) rfl), (in_g 34 (by decide +kernel) rfl)⟩
theorem cw_RX10_193 : CwV RX10 193 yX10_blackOn cX10_blackOn 4 (some .int) 1 := ⟨cwb_X10_blackOn, (in_g 1056 (by decide +kernel) rfl), (in_g 1058 (by decide +kernel) rfl), (in_g 35 (by decide +kernel) rfl)⟩
theorem cw_RX10_205 : CwS RX10 205 yX10_common cX10_common 5 (some .int) 2 := ⟨cwb_X10_common, (in_g 1060 (by decide +kernel) rfl), (in_g 1061 (by decide +kernel) rfl)⟩
theorem cw_RL_112 : CwV RL 112 yX10_rests cX10_rests 7 (some .int) 3 := ⟨cwb_X10_rests, (in_g 1063 (by decide +kernel) rfl), (in_g 1064 (by decide +kernel) rfl), (in_g 1065 (by decide +kernel) rfl)⟩
theorem cw_RX10_212 : CwV RX10 212 yX10_isRest cX10_isRest 5 (some .boolean) 4 := ⟨cwb_X10_isRest, (in_g 1067 (by decide +kernel) rfl), (in_g 1069 (by decide +kernel) rfl), (in_g 36 (by decide +kernel) rfl)⟩
theorem cw_RX10_208 : CwV RX10 208 yX10_gain cX10_gain 6 (some .int) 5 := ⟨cwb_X10_gain, (in_g 1071 (by decide +kernel) rfl), (in_g 1073 (by decide +kernel) rfl), (in_g 37 (by decide +kernel) rfl)⟩
theorem cw_RL_117 : CwV RL 117 yX10_skipped cX10_skipped 10 (some .int) 4 := ⟨cwb_X10_skipped, (in_g 1075 (by decide +kernel) rfl), (in_g 1076 (by decide +kernel) rfl), (in_g 1077 (by decide +kernel) rfl)⟩
theorem cw_RL_122 : CwV RL 122 yX10_seed cX10_seed 5 (some .long) 1 := ⟨cwb_X10_seed, (in_g 1080 (by decide +kernel) rfl), (in_g 1081 (by decide +kernel) rfl), (in_g 1082 (by decide +kernel) rfl)⟩
theorem cw_RL_126 : CwV RL 126 yX10_years cX10_years 5 (some .int) 1 := ⟨cwb_X10_years, (in_g 1084 (by decide +kernel) rfl), (in_g 1085 (by decide +kernel) rfl), (in_g 1086 (by decide +kernel) rfl)⟩
theorem cw_RX10_230 : CwV RX10 230 yX10_inkOn cX10_inkOn 4 (some .int) 1 := ⟨cwb_X10_inkOn, (in_g 1092 (by decide +kernel) rfl), (in_g 1094 (by decide +kernel) rfl), (in_g 38 (by decide +kernel) rfl)⟩
theorem cw_RL_130 : CwV RL 130 yX10_keep cX10_keep 3 (some .int) 1 := ⟨cwb_X10_keep, (in_g 1096 (by decide +kernel) rfl), (in_g 1097 (by decide +kernel) rfl), (in_g 1098 (by decide +kernel) rfl)⟩
theorem cw_RL_134 : CwV RL 134 yX10_again cX10_again 3 (some .int) 1 := ⟨cwb_X10_again, (in_g 1100 (by decide +kernel) rfl), (in_g 1101 (by decide +kernel) rfl), (in_g 1102 (by decide +kernel) rfl)⟩
theorem cw_RL_138 : CwV RL 138 yX10_count cX10_count 2 (some .int) 1 := ⟨cwb_X10_count, (in_g 1104 (by decide +kernel) rfl), (in_g 1105 (by decide +kernel) rfl), (in_g 1106 (by decide +kernel) rfl)⟩
theorem cw_RX10_233 : CwV RX10 233 yX10_fullPens cX10_fullPens 3 (some .int) 0 := ⟨cwb_X10_fullPens, (in_g 1108 (by decide +kernel) rfl), (in_g 1110 (by decide +kernel) rfl), (in_g 39 (by decide +kernel) rfl)⟩
end
section
section Rows15
variable {own : String} {b : ByteArray} {nL : Nat} {r : Option FieldType} {d : Nat} {Q : Qt} {pc : Nat} {ls : List (Option Value)} {st : List Value} {v : Mm} {L : Lm}
variable {y : MethodName} {b' : ByteArray} {n' idx ci N kr d' : Nat} {r' : Option FieldType} {rest : List Value} {v' : Mm} {L' : Lm} {T : u_T} {ty : Nat → FieldType} {res : Value}
theorem g_fS0 (hF : Fn y b' n' r' d' [] v L (some res) v' L') (hd : decode b pc = .ok (.invokestatic idx, 3)) (cw : CwS own idx y b' n' r' 0) (hdd : d' + 1 ≤ d) (hc : stc rest ≤ 8) (k : G own b nL r d Q (pc + 3) ls (res :: rest) v' L') : G own b nL r d Q pc ls (rest) v L := g_callS hF hd cw rfl hdd rfl hc (fun a b c h => by obtain ⟨h1, h2, h3⟩ := h; subst h1; subst h2; subst h3; exact k)
theorem g_vS0 (hF : Fn y b' n' r' d' [] v L none v' L') (hd : decode b pc = .ok (.invokestatic idx, 3)) (cw : CwS own idx y b' n' r' 0) (hdd : d' + 1 ≤ d) (hc : stc rest ≤ 8) (k : G own b nL r d Q (pc + 3) ls rest v' L') : G own b nL r d Q pc ls (rest) v L := g_callS hF hd cw rfl hdd rfl hc (fun a b c h => by obtain ⟨h1, h2, h3⟩ := h; subst h1; subst h2; subst h3; exact k)
theorem g_fN0 (hF : Fn y b' n' r' d' [] v L (some res) v' L') (hd : decode b pc = .ok (.invokestatic idx, 3)) (cw : CwN own idx y b' n' r' 0) (hdd : d' + 1 ≤ d) (hc : stc rest ≤ 8) (k : G own b nL r d Q (pc + 3) ls (res :: rest) v' L') : G own b nL r d Q pc ls (rest) v L := g_callN hF hd cw rfl hdd rfl hc (fun a b c h => by obtain ⟨h1, h2, h3⟩ := h; subst h1; subst h2; subst h3; exact k)
theorem g_vN0 (hF : Fn y b' n' r' d' [] v L none v' L') (hd : decode b pc = .ok (.invokestatic idx, 3)) (cw : CwN own idx y b' n' r' 0) (hdd : d' + 1 ≤ d) (hc : stc rest ≤ 8) (k : G own b nL r d Q (pc + 3) ls rest v' L') : G own b nL r d Q pc ls (rest) v L := g_callN hF hd cw rfl hdd rfl hc (fun a b c h => by obtain ⟨h1, h2, h3⟩ := h; subst h1; subst h2; subst h3; exact k)
theorem g_fV0 (hF : Fn y b' n' r' d' [.ref kr] v L (some res) v' L') (cf : Cf ci y.cls T N ty) (hk : kd kr = ci) (hd : decode b pc = .ok (.invokevirtual idx, 3)) (cw : CwV own idx y b' n' r' 0) (hdd : d' + 1 ≤ d) (hc : stc rest ≤ 8) (k : G own b nL r d Q (pc + 3) ls (res :: rest) v' L') : G own b nL r d Q pc ls (.ref kr :: rest) v L := g_callV hF cf hk hd cw rfl hdd rfl hc (fun a b c h => by obtain ⟨h1, h2, h3⟩ := h; subst h1; subst h2; subst h3; exact k)
theorem g_vV0 (hF : Fn y b' n' r' d' [.ref kr] v L none v' L') (cf : Cf ci y.cls T N ty) (hk : kd kr = ci) (hd : decode b pc = .ok (.invokevirtual idx, 3)) (cw : CwV own idx y b' n' r' 0) (hdd : d' + 1 ≤ d) (hc : stc rest ≤ 8) (k : G own b nL r d Q (pc + 3) ls rest v' L') : G own b nL r d Q pc ls (.ref kr :: rest) v L := g_callV hF cf hk hd cw rfl hdd rfl hc (fun a b c h => by obtain ⟨h1, h2, h3⟩ := h; subst h1; subst h2; subst h3; exact k)
theorem g_fS1 {x1 : Value} (hF : Fn y b' n' r' d' [x1] v L (some res) v' L') (hd : decode b pc = .ok (.invokestatic idx, 3)) (cw : CwS own idx y b' n' r' 1) (hdd : d' + 1 ≤ d) (hc : stc rest ≤ 8) (k : G own b nL r d Q (pc + 3) ls (res :: rest) v' L') : G own b nL r d Q pc ls (x1 :: rest) v L := g_callS hF hd cw rfl hdd rfl hc (fun a b c h => by obtain ⟨h1, h2, h3⟩ := h; subst h1; subst h2; subst h3; exact k)
theorem g_vS1 {x1 : Value} (hF : Fn y b' n' r' d' [x1] v L none v' L') (hd : decode b pc = .ok (.invokestatic idx, 3)) (cw : CwS own idx y b' n' r' 1) (hdd : d' + 1 ≤ d) (hc : stc rest ≤ 8) (k : G own b nL r d Q (pc + 3) ls rest v' L') : G own b nL r d Q pc ls (x1 :: rest) v L := g_callS hF hd cw rfl hdd rfl hc (fun a b c h => by obtain ⟨h1, h2, h3⟩ := h; subst h1; subst h2; subst h3; exact k)
theorem g_fN1 {x1 : Value} (hF : Fn y b' n' r' d' [x1] v L (some res) v' L') (hd : decode b pc = .ok (.invokestatic idx, 3)) (cw : CwN own idx y b' n' r' 1) (hdd : d' + 1 ≤ d) (hc : stc rest ≤ 8) (k : G own b nL r d Q (pc + 3) ls (res :: rest) v' L') : G own b nL r d Q pc ls (x1 :: rest) v L := g_callN hF hd cw rfl hdd rfl hc (fun a b c h => by obtain ⟨h1, h2, h3⟩ := h; subst h1; subst h2; subst h3; exact k)
theorem g_vN1 {x1 : Value} (hF : Fn y b' n' r' d' [x1] v L none v' L') (hd : decode b pc = .ok (.invokestatic idx, 3)) (cw : CwN own idx y b' n' r' 1) (hdd : d' + 1 ≤ d) (hc : stc rest ≤ 8) (k : G own b nL r d Q (pc + 3) ls rest v' L') : G own b nL r d Q pc ls (x1 :: rest) v L := g_callN hF hd cw rfl hdd rfl hc (fun a b c h => by obtain ⟨h1, h2, h3⟩ := h; subst h1; subst h2; subst h3; exact k)
theorem g_fV1 {x1 : Value} (hF : Fn y b' n' r' d' [.ref kr, x1] v L (some res) v' L') (cf : Cf ci y.cls T N ty) (hk : kd kr = ci) (hd : decode b pc = .ok (.invokevirtual idx, 3)) (cw : CwV own idx y b' n' r' 1) (hdd : d' + 1 ≤ d) (hc : stc rest ≤ 8) (k : G own b nL r d Q (pc + 3) ls (res :: rest) v' L') : G own b nL r d Q pc ls (x1 :: .ref kr :: rest) v L := g_callV hF cf hk hd cw rfl hdd rfl hc (fun a b c h => by obtain ⟨h1, h2, h3⟩ := h; subst h1; subst h2; subst h3; exact k)
theorem g_vV1 {x1 : Value} (hF : Fn y b' n' r' d' [.ref kr, x1] v L none v' L') (cf : Cf ci y.cls T N ty) (hk : kd kr = ci) (hd : decode b pc = .ok (.invokevirtual idx, 3)) (cw : CwV own idx y b' n' r' 1) (hdd : d' + 1 ≤ d) (hc : stc rest ≤ 8) (k : G own b nL r d Q (pc + 3) ls rest v' L') : G own b nL r d Q pc ls (x1 :: .ref kr :: rest) v L := g_callV hF cf hk hd cw rfl hdd rfl hc (fun a b c h => by obtain ⟨h1, h2, h3⟩ := h; subst h1; subst h2; subst h3; exact k)
theorem g_fS2 {x1 x2 : Value} (hF : Fn y b' n' r' d' [x1, x2] v L (some res) v' L') (hd : decode b pc = .ok (.invokestatic idx, 3)) (cw : CwS own idx y b' n' r' 2) (hdd : d' + 1 ≤ d) (hc : stc rest ≤ 8) (k : G own b nL r d Q (pc + 3) ls (res :: rest) v' L') : G own b nL r d Q pc ls (x2 :: x1 :: rest) v L := g_callS hF hd cw rfl hdd rfl hc (fun a b c h => by obtain ⟨h1, h2, h3⟩ := h; subst h1; subst h2; subst h3; exact k)
theorem g_vS2 {x1 x2 : Value} (hF : Fn y b' n' r' d' [x1, x2] v L none v' L') (hd : decode b pc = .ok (.invokestatic idx, 3)) (cw : CwS own idx y b' n' r' 2) (hdd : d' + 1 ≤ d) (hc : stc rest ≤ 8) (k : G own b nL r d Q (pc + 3) ls rest v' L') : G own b nL r d Q pc ls (x2 :: x1 :: rest) v L := g_callS hF hd cw rfl hdd rfl hc (fun a b c h => by obtain ⟨h1, h2, h3⟩ := h; subst h1; subst h2; subst h3; exact k)
theorem g_fN2 {x1 x2 : Value} (hF : Fn y b' n' r' d' [x1, x2] v L (some res) v' L') (hd : decode b pc = .ok (.invokestatic idx, 3)) (cw : CwN own idx y b' n' r' 2) (hdd : d' + 1 ≤ d) (hc : stc rest ≤ 8) (k : G own b nL r d Q (pc + 3) ls (res :: rest) v' L') : G own b nL r d Q pc ls (x2 :: x1 :: rest) v L := g_callN hF hd cw rfl hdd rfl hc (fun a b c h => by obtain ⟨h1, h2, h3⟩ := h; subst h1; subst h2; subst h3; exact k)
theorem g_vN2 {x1 x2 : Value} (hF : Fn y b' n' r' d' [x1, x2] v L none v' L') (hd : decode b pc = .ok (.invokestatic idx, 3)) (cw : CwN own idx y b' n' r' 2) (hdd : d' + 1 ≤ d) (hc : stc rest ≤ 8) (k : G own b nL r d Q (pc + 3) ls rest v' L') : G own b nL r d Q pc ls (x2 :: x1 :: rest) v L := g_callN hF hd cw rfl hdd rfl hc (fun a b c h => by obtain ⟨h1, h2, h3⟩ := h; subst h1; subst h2; subst h3; exact k)
theorem g_fV2 {x1 x2 : Value} (hF : Fn y b' n' r' d' [.ref kr, x1, x2] v L (some res) v' L') (cf : Cf ci y.cls T N ty) (hk : kd kr = ci) (hd : decode b pc = .ok (.invokevirtual idx, 3)) (cw : CwV own idx y b' n' r' 2) (hdd : d' + 1 ≤ d) (hc : stc rest ≤ 8) (k : G own b nL r d Q (pc + 3) ls (res :: rest) v' L') : G own b nL r d Q pc ls (x2 :: x1 :: .ref kr :: rest) v L := g_callV hF cf hk hd cw rfl hdd rfl hc (fun a b c h => by obtain ⟨h1, h2, h3⟩ := h; subst h1; subst h2; subst h3; exact k)
theorem g_vV2 {x1 x2 : Value} (hF : Fn y b' n' r' d' [.ref kr, x1, x2] v L none v' L') (cf : Cf ci y.cls T N ty) (hk : kd kr = ci) (hd : decode b pc = .ok (.invokevirtual idx, 3)) (cw : CwV own idx y b' n' r' 2) (hdd : d' + 1 ≤ d) (hc : stc rest ≤ 8) (k : G own b nL r d Q (pc + 3) ls rest v' L') : G own b nL r d Q pc ls (x2 :: x1 :: .ref kr :: rest) v L := g_callV hF cf hk hd cw rfl hdd rfl hc (fun a b c h => by obtain ⟨h1, h2, h3⟩ := h; subst h1; subst h2; subst h3; exact k)
theorem g_fS3 {x1 x2 x3 : Value} (hF : Fn y b' n' r' d' [x1, x2, x3] v L (some res) v' L') (hd : decode b pc = .ok (.invokestatic idx, 3)) (cw : CwS own idx y b' n' r' 3) (hdd : d' + 1 ≤ d) (hc : stc rest ≤ 8) (k : G own b nL r d Q (pc + 3) ls (res :: rest) v' L') : G own b nL r d Q pc ls (x3 :: x2 :: x1 :: rest) v L := g_callS hF hd cw rfl hdd rfl hc (fun a b c h => by obtain ⟨h1, h2, h3⟩ := h; subst h1; subst h2; subst h3; exact k)
theorem g_vS3 {x1 x2 x3 : Value} (hF : Fn y b' n' r' d' [x1, x2, x3] v L none v' L') (hd : decode b pc = .ok (.invokestatic idx, 3)) (cw : CwS own idx y b' n' r' 3) (hdd : d' + 1 ≤ d) (hc : stc rest ≤ 8) (k : G own b nL r d Q (pc + 3) ls rest v' L') : G own b nL r d Q pc ls (x3 :: x2 :: x1 :: rest) v L := g_callS hF hd cw rfl hdd rfl hc (fun a b c h => by obtain ⟨h1, h2, h3⟩ := h; subst h1; subst h2; subst h3; exact k)
theorem g_fN3 {x1 x2 x3 : Value} (hF : Fn y b' n' r' d' [x1, x2, x3] v L (some res) v' L') (hd : decode b pc = .ok (.invokestatic idx, 3)) (cw : CwN own idx y b' n' r' 3) (hdd : d' + 1 ≤ d) (hc : stc rest ≤ 8) (k : G own b nL r d Q (pc + 3) ls (res :: rest) v' L') : G own b nL r d Q pc ls (x3 :: x2 :: x1 :: rest) v L := g_callN hF hd cw rfl hdd rfl hc (fun a b c h => by obtain ⟨h1, h2, h3⟩ := h; subst h1; subst h2; subst h3; exact k)
theorem g_vN3 {x1 x2 x3 : Value} (hF : Fn y b' n' r' d' [x1, x2, x3] v L none v' L') (hd : decode b pc = .ok (.invokestatic idx, 3)) (cw : CwN own idx y b' n' r' 3) (hdd : d' + 1 ≤ d) (hc : stc rest ≤ 8) (k : G own b nL r d Q (pc + 3) ls rest v' L') : G own b nL r d Q pc ls (x3 :: x2 :: x1 :: rest) v L := g_callN hF hd cw rfl hdd rfl hc (fun a b c h => by obtain ⟨h1, h2, h3⟩ := h; subst h1; subst h2; subst h3; exact k)
theorem g_fV3 {x1 x2 x3 : Value} (hF : Fn y b' n' r' d' [.ref kr, x1, x2, x3] v L (some res) v' L') (cf : Cf ci y.cls T N ty) (hk : kd kr = ci) (hd : decode b pc = .ok (.invokevirtual idx, 3)) (cw : CwV own idx y b' n' r' 3) (hdd : d' + 1 ≤ d) (hc : stc rest ≤ 8) (k : G own b nL r d Q (pc + 3) ls (res :: rest) v' L') : G own b nL r d Q pc ls (x3 :: x2 :: x1 :: .ref kr :: rest) v L := g_callV hF cf hk hd cw rfl hdd rfl hc (fun a b c h => by obtain ⟨h1, h2, h3⟩ := h; subst h1; subst h2; subst h3; exact k)
theorem g_vV3 {x1 x2 x3 : Value} (hF : Fn y b' n' r' d' [.ref kr, x1, x2, x3] v L none v' L') (cf : Cf ci y.cls T N ty) (hk : kd kr = ci) (hd : decode b pc = .ok (.invokevirtual idx, 3)) (cw : CwV own idx y b' n' r' 3) (hdd : d' + 1 ≤ d) (hc : stc rest ≤ 8) (k : G own b nL r d Q (pc + 3) ls rest v' L') : G own b nL r d Q pc ls (x3 :: x2 :: x1 :: .ref kr :: rest) v L := g_callV hF cf hk hd cw rfl hdd rfl hc (fun a b c h => by obtain ⟨h1, h2, h3⟩ := h; subst h1; subst h2; subst h3; exact k)
theorem g_fS4 {x1 x2 x3 x4 : Value} (hF : Fn y b' n' r' d' [x1, x2, x3, x4] v L (some res) v' L') (hd : decode b pc = .ok (.invokestatic idx, 3)) (cw : CwS own idx y b' n' r' 4) (hdd : d' + 1 ≤ d) (hc : stc rest ≤ 8) (k : G own b nL r d Q (pc + 3) ls (res :: rest) v' L') : G own b nL r d Q pc ls (x4 :: x3 :: x2 :: x1 :: rest) v L := g_callS hF hd cw rfl hdd rfl hc (fun a b c h => by obtain ⟨h1, h2, h3⟩ := h; subst h1; subst h2; subst h3; exact k)
theorem g_vS4 {x1 x2 x3 x4 : Value} (hF : Fn y b' n' r' d' [x1, x2, x3, x4] v L none v' L') (hd : decode b pc = .ok (.invokestatic idx, 3)) (cw : CwS own idx y b' n' r' 4) (hdd : d' + 1 ≤ d) (hc : stc rest ≤ 8) (k : G own b nL r d Q (pc + 3) ls rest v' L') : G own b nL r d Q pc ls (x4 :: x3 :: x2 :: x1 :: rest) v L := g_callS hF hd cw rfl hdd rfl hc (fun a b c h => by obtain ⟨h1, h2, h3⟩ := h; subst h1; subst h2; subst h3; exact k)
theorem g_fN4 {x1 x2 x3 x4 : Value} (hF : Fn y b' n' r' d' [x1, x2, x3, x4] v L (some res) v' L') (hd : decode b pc = .ok (.invokestatic idx, 3)) (cw : CwN own idx y b' n' r' 4) (hdd : d' + 1 ≤ d) (hc : stc rest ≤ 8) (k : G own b nL r d Q (pc + 3) ls (res :: rest) v' L') : G own b nL r d Q pc ls (x4 :: x3 :: x2 :: x1 :: rest) v L := g_callN hF hd cw rfl hdd rfl hc (fun a b c h => by obtain ⟨h1, h2, h3⟩ := h; subst h1; subst h2; subst h3; exact k)
theorem g_vN4 {x1 x2 x3 x4 : Value} (hF : Fn y b' n' r' d' [x1, x2, x3, x4] v L none v' L') (hd : decode b pc = .ok (.invokestatic idx, 3)) (cw : CwN own idx y b' n' r' 4) (hdd : d' + 1 ≤ d) (hc : stc rest ≤ 8) (k : G own b nL r d Q (pc + 3) ls rest v' L') : G own b nL r d Q pc ls (x4 :: x3 :: x2 :: x1 :: rest) v L := g_callN hF hd cw rfl hdd rfl hc (fun a b c h => by obtain ⟨h1, h2, h3⟩ := h; subst h1; subst h2; subst h3; exact k)
theorem g_fV4 {x1 x2 x3 x4 : Value} (hF : Fn y b' n' r' d' [.ref kr, x1, x2, x3, x4] v L (some res) v' L') (cf : Cf ci y.cls T N ty) (hk : kd kr = ci) (hd : decode b pc = .ok (.invokevirtual idx, 3)) (cw : CwV own idx y b' n' r' 4) (hdd : d' + 1 ≤ d) (hc : stc rest ≤ 8) (k : G own b nL r d Q (pc + 3) ls (res :: rest) v' L') : G own b nL r d Q pc ls (x4 :: x3 :: x2 :: x1 :: .ref kr :: rest) v L := g_callV hF cf hk hd cw rfl hdd rfl hc (fun a b c h => by obtain ⟨h1, h2, h3⟩ := h; subst h1; subst h2; subst h3; exact k)
theorem g_vV4 {x1 x2 x3 x4 : Value} (hF : Fn y b' n' r' d' [.ref kr, x1, x2, x3, x4] v L none v' L') (cf : Cf ci y.cls T N ty) (hk : kd kr = ci) (hd : decode b pc = .ok (.invokevirtual idx, 3)) (cw : CwV own idx y b' n' r' 4) (hdd : d' + 1 ≤ d) (hc : stc rest ≤ 8) (k : G own b nL r d Q (pc + 3) ls rest v' L') : G own b nL r d Q pc ls (x4 :: x3 :: x2 :: x1 :: .ref kr :: rest) v L := g_callV hF cf hk hd cw rfl hdd rfl hc (fun a b c h => by obtain ⟨h1, h2, h3⟩ := h; subst h1; subst h2; subst h3; exact k)
theorem g_fS5 {x1 x2 x3 x4 x5 : Value} (hF : Fn y b' n' r' d' [x1, x2, x3, x4, x5] v L (some res) v' L') (hd : decode b pc = .ok (.invokestatic idx, 3)) (cw : CwS own idx y b' n' r' 5) (hdd : d' + 1 ≤ d) (hc : stc rest ≤ 8) (k : G own b nL r d Q (pc + 3) ls (res :: rest) v' L') : G own b nL r d Q pc ls (x5 :: x4 :: x3 :: x2 :: x1 :: rest) v L := g_callS hF hd cw rfl hdd rfl hc (fun a b c h => by obtain ⟨h1, h2, h3⟩ := h; subst h1; subst h2; subst h3; exact k)
theorem g_vS5 {x1 x2 x3 x4 x5 : Value} (hF : Fn y b' n' r' d' [x1, x2, x3, x4, x5] v L none v' L') (hd : decode b pc = .ok (.invokestatic idx, 3)) (cw : CwS own idx y b' n' r' 5) (hdd : d' + 1 ≤ d) (hc : stc rest ≤ 8) (k : G own b nL r d Q (pc + 3) ls rest v' L') : G own b nL r d Q pc ls (x5 :: x4 :: x3 :: x2 :: x1 :: rest) v L := g_callS hF hd cw rfl hdd rfl hc (fun a b c h => by obtain ⟨h1, h2, h3⟩ := h; subst h1; subst h2; subst h3; exact k)
theorem g_fN5 {x1 x2 x3 x4 x5 : Value} (hF : Fn y b' n' r' d' [x1, x2, x3, x4, x5] v L (some res) v' L') (hd : decode b pc = .ok (.invokestatic idx, 3)) (cw : CwN own idx y b' n' r' 5) (hdd : d' + 1 ≤ d) (hc : stc rest ≤ 8) (k : G own b nL r d Q (pc + 3) ls (res :: rest) v' L') : G own b nL r d Q pc ls (x5 :: x4 :: x3 :: x2 :: x1 :: rest) v L := g_callN hF hd cw rfl hdd rfl hc (fun a b c h => by obtain ⟨h1, h2, h3⟩ := h; subst h1; subst h2; subst h3; exact k)
theorem g_vN5 {x1 x2 x3 x4 x5 : Value} (hF : Fn y b' n' r' d' [x1, x2, x3, x4, x5] v L none v' L') (hd : decode b pc = .ok (.invokestatic idx, 3)) (cw : CwN own idx y b' n' r' 5) (hdd : d' + 1 ≤ d) (hc : stc rest ≤ 8) (k : G own b nL r d Q (pc + 3) ls rest v' L') : G own b nL r d Q pc ls (x5 :: x4 :: x3 :: x2 :: x1 :: rest) v L := g_callN hF hd cw rfl hdd rfl hc (fun a b c h => by obtain ⟨h1, h2, h3⟩ := h; subst h1; subst h2; subst h3; exact k)
theorem g_fV5 {x1 x2 x3 x4 x5 : Value} (hF : Fn y b' n' r' d' [.ref kr, x1, x2, x3, x4, x5] v L (some res) v' L') (cf : Cf ci y.cls T N ty) (hk : kd kr = ci) (hd : decode b pc = .ok (.invokevirtual idx, 3)) (cw : CwV own idx y b' n' r' 5) (hdd : d' + 1 ≤ d) (hc : stc rest ≤ 8) (k : G own b nL r d Q (pc + 3) ls (res :: rest) v' L') : G own b nL r d Q pc ls (x5 :: x4 :: x3 :: x2 :: x1 :: .ref kr :: rest) v L := g_callV hF cf hk hd cw rfl hdd rfl hc (fun a b c h => by obtain ⟨h1, h2, h3⟩ := h; subst h1; subst h2; subst h3; exact k)
theorem g_vV5 {x1 x2 x3 x4 x5 : Value} (hF : Fn y b' n' r' d' [.ref kr, x1, x2, x3, x4, x5] v L none v' L') (cf : Cf ci y.cls T N ty) (hk : kd kr = ci) (hd : decode b pc = .ok (.invokevirtual idx, 3)) (cw : CwV own idx y b' n' r' 5) (hdd : d' + 1 ≤ d) (hc : stc rest ≤ 8) (k : G own b nL r d Q (pc + 3) ls rest v' L') : G own b nL r d Q pc ls (x5 :: x4 :: x3 :: x2 :: x1 :: .ref kr :: rest) v L := g_callV hF cf hk hd cw rfl hdd rfl hc (fun a b c h => by obtain ⟨h1, h2, h3⟩ := h; subst h1; subst h2; subst h3; exact k)
theorem g_fS6 {x1 x2 x3 x4 x5 x6 : Value} (hF : Fn y b' n' r' d' [x1, x2, x3, x4, x5, x6] v L (some res) v' L') (hd : decode b pc = .ok (.invokestatic idx, 3)) (cw : CwS own idx y b' n' r' 6) (hdd : d' + 1 ≤ d) (hc : stc rest ≤ 8) (k : G own b nL r d Q (pc + 3) ls (res :: rest) v' L') : G own b nL r d Q pc ls (x6 :: x5 :: x4 :: x3 :: x2 :: x1 :: rest) v L := g_callS hF hd cw rfl hdd rfl hc (fun a b c h => by obtain ⟨h1, h2, h3⟩ := h; subst h1; subst h2; subst h3; exact k)
theorem g_vS6 {x1 x2 x3 x4 x5 x6 : Value} (hF : Fn y b' n' r' d' [x1, x2, x3, x4, x5, x6] v L none v' L') (hd : decode b pc = .ok (.invokestatic idx, 3)) (cw : CwS own idx y b' n' r' 6) (hdd : d' + 1 ≤ d) (hc : stc rest ≤ 8) (k : G own b nL r d Q (pc + 3) ls rest v' L') : G own b nL r d Q pc ls (x6 :: x5 :: x4 :: x3 :: x2 :: x1 :: rest) v L := g_callS hF hd cw rfl hdd rfl hc (fun a b c h => by obtain ⟨h1, h2, h3⟩ := h; subst h1; subst h2; subst h3; exact k)
theorem g_fN6 {x1 x2 x3 x4 x5 x6 : Value} (hF : Fn y b' n' r' d' [x1, x2, x3, x4, x5, x6] v L (some res) v' L') (hd : decode b pc = .ok (.invokestatic idx, 3)) (cw : CwN own idx y b' n' r' 6) (hdd : d' + 1 ≤ d) (hc : stc rest ≤ 8) (k : G own b nL r d Q (pc + 3) ls (res :: rest) v' L') : G own b nL r d Q pc ls (x6 :: x5 :: x4 :: x3 :: x2 :: x1 :: rest) v L := g_callN hF hd cw rfl hdd rfl hc (fun a b c h => by obtain ⟨h1, h2, h3⟩ := h; subst h1; subst h2; subst h3; exact k)
theorem g_vN6 {x1 x2 x3 x4 x5 x6 : Value} (hF : Fn y b' n' r' d' [x1, x2, x3, x4, x5, x6] v L none v' L') (hd : decode b pc = .ok (.invokestatic idx, 3)) (cw : CwN own idx y b' n' r' 6) (hdd : d' + 1 ≤ d) (hc : stc rest ≤ 8) (k : G own b nL r d Q (pc + 3) ls rest v' L') : G own b nL r d Q pc ls (x6 :: x5 :: x4 :: x3 :: x2 :: x1 :: rest) v L := g_callN hF hd cw rfl hdd rfl hc (fun a b c h => by obtain ⟨h1, h2, h3⟩ := h; subst h1; subst h2; subst h3; exact k)
theorem g_fV6 {x1 x2 x3 x4 x5 x6 : Value} (hF : Fn y b' n' r' d' [.ref kr, x1, x2, x3, x4, x5, x6] v L (some res) v' L') (cf : Cf ci y.cls T N ty) (hk : kd kr = ci) (hd : decode b pc = .ok (.invokevirtual idx, 3)) (cw : CwV own idx y b' n' r' 6) (hdd : d' + 1 ≤ d) (hc : stc rest ≤ 8) (k : G own b nL r d Q (pc + 3) ls (res :: rest) v' L') : G own b nL r d Q pc ls (x6 :: x5 :: x4 :: x3 :: x2 :: x1 :: .ref kr :: rest) v L := g_callV hF cf hk hd cw rfl hdd rfl hc (fun a b c h => by obtain ⟨h1, h2, h3⟩ := h; subst h1; subst h2; subst h3; exact k)
theorem g_vV6 {x1 x2 x3 x4 x5 x6 : Value} (hF : Fn y b' n' r' d' [.ref kr, x1, x2, x3, x4, x5, x6] v L none v' L') (cf : Cf ci y.cls T N ty) (hk : kd kr = ci) (hd : decode b pc = .ok (.invokevirtual idx, 3)) (cw : CwV own idx y b' n' r' 6) (hdd : d' + 1 ≤ d) (hc : stc rest ≤ 8) (k : G own b nL r d Q (pc + 3) ls rest v' L') : G own b nL r d Q pc ls (x6 :: x5 :: x4 :: x3 :: x2 :: x1 :: .ref kr :: rest) v L := g_callV hF cf hk hd cw rfl hdd rfl hc (fun a b c h => by obtain ⟨h1, h2, h3⟩ := h; subst h1; subst h2; subst h3; exact k)
theorem g_fS7 {x1 x2 x3 x4 x5 x6 x7 : Value} (hF : Fn y b' n' r' d' [x1, x2, x3, x4, x5, x6, x7] v L (some res) v' L') (hd : decode b pc = .ok (.invokestatic idx, 3)) (cw : CwS own idx y b' n' r' 7) (hdd : d' + 1 ≤ d) (hc : stc rest ≤ 8) (k : G own b nL r d Q (pc + 3) ls (res :: rest) v' L') : G own b nL r d Q pc ls (x7 :: x6 :: x5 :: x4 :: x3 :: x2 :: x1 :: rest) v L := g_callS hF hd cw rfl hdd rfl hc (fun a b c h => by obtain ⟨h1, h2, h3⟩ := h; subst h1; subst h2; subst h3; exact k)
theorem g_vS7 {x1 x2 x3 x4 x5 x6 x7 : Value} (hF : Fn y b' n' r' d' [x1, x2, x3, x4, x5, x6, x7] v L none v' L') (hd : decode b pc = .ok (.invokestatic idx, 3)) (cw : CwS own idx y b' n' r' 7) (hdd : d' + 1 ≤ d) (hc : stc rest ≤ 8) (k : G own b nL r d Q (pc + 3) ls rest v' L') : G own b nL r d Q pc ls (x7 :: x6 :: x5 :: x4 :: x3 :: x2 :: x1 :: rest) v L := g_callS hF hd cw rfl hdd rfl hc (fun a b c h => by obtain ⟨h1, h2, h3⟩ := h; subst h1; subst h2; subst h3; exact k)
theorem g_fN7 {x1 x2 x3 x4 x5 x6 x7 : Value} (hF : Fn y b' n' r' d' [x1, x2, x3, x4, x5, x6, x7] v L (some res) v' L') (hd : decode b pc = .ok (.invokestatic idx, 3)) (cw : CwN own idx y b' n' r' 7) (hdd : d' + 1 ≤ d) (hc : stc rest ≤ 8) (k : G own b nL r d Q (pc + 3) ls (res :: rest) v' L') : G own b nL r d Q pc ls (x7 :: x6 :: x5 :: x4 :: x3 :: x2 :: x1 :: rest) v L := g_callN hF hd cw rfl hdd rfl hc (fun a b c h => by obtain ⟨h1, h2, h3⟩ := h; subst h1; subst h2; subst h3; exact k)
theorem g_vN7 {x1 x2 x3 x4 x5 x6 x7 : Value} (hF : Fn y b' n' r' d' [x1, x2, x3, x4, x5, x6, x7] v L none v' L') (hd : decode b pc = .ok (.invokestatic idx, 3)) (cw : CwN own idx y b' n' r' 7) (hdd : d' + 1 ≤ d) (hc : stc rest ≤ 8) (k : G own b nL r d Q (pc + 3) ls rest v' L') : G own b nL r d Q pc ls (x7 :: x6 :: x5 :: x4 :: x3 :: x2 :: x1 :: rest) v L := g_callN hF hd cw rfl hdd rfl hc (fun a b c h => by obtain ⟨h1, h2, h3⟩ := h; subst h1; subst h2; subst h3; exact k)
theorem g_fV7 {x1 x2 x3 x4 x5 x6 x7 : Value} (hF : Fn y b' n' r' d' [.ref kr, x1, x2, x3, x4, x5, x6, x7] v L (some res) v' L') (cf : Cf ci y.cls T N ty) (hk : kd kr = ci) (hd : decode b pc = .ok (.invokevirtual idx, 3)) (cw : CwV own idx y b' n' r' 7) (hdd : d' + 1 ≤ d) (hc : stc rest ≤ 8) (k : G own b nL r d Q (pc + 3) ls (res :: rest) v' L') : G own b nL r d Q pc ls (x7 :: x6 :: x5 :: x4 :: x3 :: x2 :: x1 :: .ref kr :: rest) v L := g_callV hF cf hk hd cw rfl hdd rfl hc (fun a b c h => by obtain ⟨h1, h2, h3⟩ := h; subst h1; subst h2; subst h3; exact k)
theorem g_vV7 {x1 x2 x3 x4 x5 x6 x7 : Value} (hF : Fn y b' n' r' d' [.ref kr, x1, x2, x3, x4, x5, x6, x7] v L none v' L') (cf : Cf ci y.cls T N ty) (hk : kd kr = ci) (hd : decode b pc = .ok (.invokevirtual idx, 3)) (cw : CwV own idx y b' n' r' 7) (hdd : d' + 1 ≤ d) (hc : stc rest ≤ 8) (k : G own b nL r d Q (pc + 3) ls rest v' L') : G own b nL r d Q pc ls (x7 :: x6 :: x5 :: x4 :: x3 :: x2 :: x1 :: .ref kr :: rest) v L := g_callV hF cf hk hd cw rfl hdd rfl hc (fun a b c h => by obtain ⟨h1, h2, h3⟩ := h; subst h1; subst h2; subst h3; exact k)
theorem ac_nf : nativeFrameWords "java/lang/System" "arraycopy" 5 ≤ 100 := by decide +kernel
theorem ac_nat : Cond.native arraycopyName ∈ lw_g := in_g 436 (by decide +kernel) rfl
theorem ac_stat : Cond.static arraycopyName ∈ lw_g := in_g 435 (by decide +kernel) rfl
theorem ac_ini : Cond.initialized "java/lang/System" ∈ lw_g := in_g 54 (by decide +kernel) rfl
theorem ac_RX4_35 : Cond.methodLink RX4 35 arraycopyName ∈ lw_g := in_g 434 (by decide +kernel) rfl
theorem ac_RX7_77 : Cond.methodLink RX7 77 arraycopyName ∈ lw_g := in_g 622 (by decide +kernel) rfl
theorem g_copyi {k0 k1 : Nat} {sp dp n : Int32} (hd : decode b pc = .ok (.invokestatic idx, 3)) (hw : Cond.methodLink own idx arraycopyName ∈ lw_g) (hk0 : kd k0 = 11) (hk1 : kd k1 = 11) (h1 : ¬ sp < 0) (h2 : ¬ dp < 0) (h3 : ¬ n < 0) (h4 : sp.toNatClampNeg + n.toNatClampNeg ≤ ln k0) (h5 : dp.toNatClampNeg + n.toNatClampNeg ≤ ln k1) (hd1 : 1 ≤ d) (hc : stc rest ≤ 8) (k : G own b nL r d Q (pc + 3) ls rest (updA v k1 (va_cpy (v k0) (v k1) sp.toNatClampNeg dp.toNatClampNeg n.toNatClampNeg)) L) : G own b nL r d Q pc ls (.int n :: .int dp :: .ref k1 :: .int sp :: .ref k0 :: rest) v L := by
  intro l D cy ad z p e s m args below meth c H locs lsA hC
  obtain ⟨hx, hb, hr, hml, hown, hts, hlk, hSx, hP, hS, hL⟩ := hC
  have hl : ((rest.map (trv ad)).map fun v => v.category).sum + (nativeFrameWords "java/lang/System" "arraycopy" 5 + 11) ≤ (Rm d).locals := by
    rw [stc_eq]
    show stc rest + (nativeFrameWords "java/lang/System" "arraycopy" 5 + 11) ≤ 200 * d
    have := ac_nf
    omega
  refine va_copyi (ty := .int) hx hb (hml.trans hL.1.symm) hown (hts _ hw) (hts _ ac_nat) (hts _ ac_stat) (hts _ ac_ini) hSx.1 hP (hSx.2.1.D cy v L) hS k0 k1 0 0 (ws_int hk0) (ws_int hk1) rfl rfl rfl h1 h2 h3 h4 h5 (fun _ _ => rfl) hd1 hl hd (fun H1 locs1 hP1 hD1 hS1 => ?_)
  rw [ws_arr hk1 (by decide) (by decide)] at hP1
  exact k l D cy ad z p e s m args below meth c H1 locs1 lsA ⟨hx, hb, hr, hml, hown, hts, hlk, hSx, hP1, hS1, hL⟩
end Rows15
/-! loops that count up -/
def itr {σ : Type} (f : Nat → σ → σ) : Nat → σ → σ
  | 0, s => s
  | n + 1, s => f n (itr f n s)
theorem g_for {σ : Type} (n : Nat) (f : Nat → σ → σ) (I : Nat → σ → Prop) (Hd : Nat → σ → Prop) (s0 : σ) (h0 : I 0 s0) (inv : ∀ i s, i < n → I i s → I (i + 1) (f i s)) (fin : I n (itr f n s0) → Hd n (itr f n s0)) (step : ∀ i s, i < n → I i s → Hd (i + 1) (f i s) → Hd i s) : Hd 0 s0 := by
  have hI : ∀ j, j ≤ n → I j (itr f j s0) := by
    intro j
    induction j with
    | zero => intro _; exact h0
    | succ j ih => intro h; exact inv j _ h (ih (by omega))
  have key : ∀ m j, j + m = n → Hd j (itr f j s0) := by
    intro m
    induction m with
    | zero => intro j hj; have e : j = n := by omega
              subst e; exact fin (hI _ (Nat.le_refl _))
    | succ m ih => intro j hj; exact step j _ (by omega) (hI j (by omega)) (ih (j + 1) (by omega))
  exact key n 0 (Nat.zero_add n)
theorem nI_lt' {a b : Nat} (ha : a < 2 ^ 31) (hb : b < 2 ^ 31) : nI a < nI b ↔ a < b := nI_ltI ha hb
theorem nI_ofNat (n : Nat) : (OfNat.ofNat n : Int32) = nI n := rfl
end
section
/-! small facts: truth values, indices -/
def b01 (c : Prop) [Decidable c] : Int32 := if c then 1 else 0
theorem b01_eq0 {c : Prop} [Decidable c] : b01 c = 0 ↔ ¬ c := by unfold b01; by_cases h : c <;> simp [h]
theorem b01_ne0 {c : Prop} [Decidable c] : ¬ b01 c = 0 ↔ c := by rw [b01_eq0, Classical.not_not]
theorem b01_01 {c : Prop} [Decidable c] : b01 c = 0 ∨ b01 c = 1 := by unfold b01; by_cases h : c <;> simp [h]
theorem b01_t {c : Prop} [Decidable c] (h : c) : b01 c = 1 := if_pos h
theorem b01_f {c : Prop} [Decidable c] (h : ¬ c) : b01 c = 0 := if_neg h
theorem i32lt {a b : Int32} : a < b ↔ a.toInt < b.toInt := Int32.lt_iff_toInt_lt
theorem i32le {a b : Int32} : a ≤ b ↔ a.toInt ≤ b.toInt := Int32.le_iff_toInt_le
theorem i32nlt {a b : Int32} : ¬ a < b ↔ b ≤ a := by rw [i32lt, i32le]; omega
theorem i32nle {a b : Int32} : ¬ a ≤ b ↔ b < a := by rw [i32lt, i32le]; omega
theorem vin_lt {x : Int32} {n : Nat} (hn : n < 2 ^ 31) (h : 0 ≤ x ∧ x < nI n) : vp_in x n := by
  rw [vp_in_iff]
  have h1 := i32le.mp h.1
  have h2 := i32lt.mp h.2
  rw [nI_toInt hn] at h2
  exact ⟨h1, h2⟩
theorem vin_le {x : Int32} {n : Nat} (hn : n < 2 ^ 31) (h : 0 ≤ x ∧ x ≤ nI (n - 1)) (h0 : 0 < n) : vp_in x n := by
  rw [vp_in_iff]
  have h1 := i32le.mp h.1
  have h2 := i32le.mp h.2
  rw [nI_toInt (by omega)] at h2
  exact ⟨h1, by omega⟩
theorem nI_of_in {x : Int32} {n : Nat} (hn : n < 2 ^ 31) (h : 0 ≤ x ∧ x < nI n) : ∃ j, j < n ∧ x = nI j := vp_in_of (vin_lt hn h) hn
theorem u2_s {v : Mm} {k j : Nat} {x : Int32} : upd2 v k j x k j = x := by unfold upd2; simp
theorem u2_n {v : Mm} {k j a b : Nat} {x : Int32} (h : ¬ (a = k ∧ b = j)) : upd2 v k j x a b = v a b := by unfold upd2; rw [if_neg h]
theorem uA_s {v : Mm} {k : Nat} {f : Nat → Int32} : updA v k f k = f := by unfold updA; simp
theorem uA_n {v : Mm} {k a : Nat} {f : Nat → Int32} (h : ¬ a = k) : updA v k f a = v a := by unfold updA; rw [if_neg h]
theorem ul_s {v : Lm} {k : Nat} {x : Int64} : updl v k x k = x := by unfold updl; simp
theorem u2_same {v : Mm} {k j : Nat} {x : Int32} (h : v k j = x) : upd2 v k j x = v := by
  funext a b
  unfold upd2
  split
  · rename_i q; rw [q.1, q.2, h]
  · rfl
theorem u2_twice {v : Mm} {k j : Nat} {x y : Int32} : upd2 (upd2 v k j x) k j y = upd2 v k j y := by
  funext a b
  unfold upd2
  split <;> rfl
end
section
theorem tsw_0_2 (x : Int32) : x = 0 ∨ x = 1 ∨ x = 2 ∨ (x.toInt < 0 ∨ 2 < x.toInt) := by
  by_cases h : x.toInt < 0 ∨ 2 < x.toInt
  · exact Or.inr (Or.inr (Or.inr (h)))
  · have hh : x.toInt = 0 ∨ x.toInt = 1 ∨ x.toInt = 2 := by omega
    rcases hh with h | h | h
    · exact Or.inl (Int32.toInt_inj.mp (by rw [h]; rfl))
    · exact Or.inr (Or.inl (Int32.toInt_inj.mp (by rw [h]; rfl)))
    · exact Or.inr (Or.inr (Or.inl (Int32.toInt_inj.mp (by rw [h]; rfl))))
theorem tsw_0_6 (x : Int32) : x = 0 ∨ x = 1 ∨ x = 2 ∨ x = 3 ∨ x = 4 ∨ x = 5 ∨ x = 6 ∨ (x.toInt < 0 ∨ 6 < x.toInt) := by
  by_cases h : x.toInt < 0 ∨ 6 < x.toInt
  · exact Or.inr (Or.inr (Or.inr (Or.inr (Or.inr (Or.inr (Or.inr (h)))))))
  · have hh : x.toInt = 0 ∨ x.toInt = 1 ∨ x.toInt = 2 ∨ x.toInt = 3 ∨ x.toInt = 4 ∨ x.toInt = 5 ∨ x.toInt = 6 := by omega
    rcases hh with h | h | h | h | h | h | h
    · exact Or.inl (Int32.toInt_inj.mp (by rw [h]; rfl))
    · exact Or.inr (Or.inl (Int32.toInt_inj.mp (by rw [h]; rfl)))
    · exact Or.inr (Or.inr (Or.inl (Int32.toInt_inj.mp (by rw [h]; rfl))))
    · exact Or.inr (Or.inr (Or.inr (Or.inl (Int32.toInt_inj.mp (by rw [h]; rfl)))))
    · exact Or.inr (Or.inr (Or.inr (Or.inr (Or.inl (Int32.toInt_inj.mp (by rw [h]; rfl))))))
    · exact Or.inr (Or.inr (Or.inr (Or.inr (Or.inr (Or.inl (Int32.toInt_inj.mp (by rw [h]; rfl)))))))
    · exact Or.inr (Or.inr (Or.inr (Or.inr (Or.inr (Or.inr (Or.inl (Int32.toInt_inj.mp (by rw [h]; rfl))))))))
theorem tsw_0_9 (x : Int32) : x = 0 ∨ x = 1 ∨ x = 2 ∨ x = 3 ∨ x = 4 ∨ x = 5 ∨ x = 6 ∨ x = 7 ∨ x = 8 ∨ x = 9 ∨ (x.toInt < 0 ∨ 9 < x.toInt) := by
  by_cases h : x.toInt < 0 ∨ 9 < x.toInt
  · exact Or.inr (Or.inr (Or.inr (Or.inr (Or.inr (Or.inr (Or.inr (Or.inr (Or.inr (Or.inr (h))))))))))
  · have hh : x.toInt = 0 ∨ x.toInt = 1 ∨ x.toInt = 2 ∨ x.toInt = 3 ∨ x.toInt = 4 ∨ x.toInt = 5 ∨ x.toInt = 6 ∨ x.toInt = 7 ∨ x.toInt = 8 ∨ x.toInt = 9 := by omega
    rcases hh with h | h | h | h | h | h | h | h | h | h
    · exact Or.inl (Int32.toInt_inj.mp (by rw [h]; rfl))
    · exact Or.inr (Or.inl (Int32.toInt_inj.mp (by rw [h]; rfl)))
    · exact Or.inr (Or.inr (Or.inl (Int32.toInt_inj.mp (by rw [h]; rfl))))
    · exact Or.inr (Or.inr (Or.inr (Or.inl (Int32.toInt_inj.mp (by rw [h]; rfl)))))
    · exact Or.inr (Or.inr (Or.inr (Or.inr (Or.inl (Int32.toInt_inj.mp (by rw [h]; rfl))))))
    · exact Or.inr (Or.inr (Or.inr (Or.inr (Or.inr (Or.inl (Int32.toInt_inj.mp (by rw [h]; rfl)))))))
    · exact Or.inr (Or.inr (Or.inr (Or.inr (Or.inr (Or.inr (Or.inl (Int32.toInt_inj.mp (by rw [h]; rfl))))))))
    · exact Or.inr (Or.inr (Or.inr (Or.inr (Or.inr (Or.inr (Or.inr (Or.inl (Int32.toInt_inj.mp (by rw [h]; rfl)))))))))
    · exact Or.inr (Or.inr (Or.inr (Or.inr (Or.inr (Or.inr (Or.inr (Or.inr (Or.inl (Int32.toInt_inj.mp (by rw [h]; rfl))))))))))
    · exact Or.inr (Or.inr (Or.inr (Or.inr (Or.inr (Or.inr (Or.inr (Or.inr (Or.inr (Or.inl (Int32.toInt_inj.mp (by rw [h]; rfl)))))))))))
theorem tsw_1_7 (x : Int32) : x = 1 ∨ x = 2 ∨ x = 3 ∨ x = 4 ∨ x = 5 ∨ x = 6 ∨ x = 7 ∨ (x.toInt < 1 ∨ 7 < x.toInt) := by
  by_cases h : x.toInt < 1 ∨ 7 < x.toInt
  · exact Or.inr (Or.inr (Or.inr (Or.inr (Or.inr (Or.inr (Or.inr (h)))))))
  · have hh : x.toInt = 1 ∨ x.toInt = 2 ∨ x.toInt = 3 ∨ x.toInt = 4 ∨ x.toInt = 5 ∨ x.toInt = 6 ∨ x.toInt = 7 := by omega
    rcases hh with h | h | h | h | h | h | h
    · exact Or.inl (Int32.toInt_inj.mp (by rw [h]; rfl))
    · exact Or.inr (Or.inl (Int32.toInt_inj.mp (by rw [h]; rfl)))
    · exact Or.inr (Or.inr (Or.inl (Int32.toInt_inj.mp (by rw [h]; rfl))))
    · exact Or.inr (Or.inr (Or.inr (Or.inl (Int32.toInt_inj.mp (by rw [h]; rfl)))))
    · exact Or.inr (Or.inr (Or.inr (Or.inr (Or.inl (Int32.toInt_inj.mp (by rw [h]; rfl))))))
    · exact Or.inr (Or.inr (Or.inr (Or.inr (Or.inr (Or.inl (Int32.toInt_inj.mp (by rw [h]; rfl)))))))
    · exact Or.inr (Or.inr (Or.inr (Or.inr (Or.inr (Or.inr (Or.inl (Int32.toInt_inj.mp (by rw [h]; rfl))))))))
theorem tsw_0_28 (x : Int32) : x = 0 ∨ x = 1 ∨ x = 2 ∨ x = 3 ∨ x = 4 ∨ x = 5 ∨ x = 6 ∨ x = 7 ∨ x = 8 ∨ x = 9 ∨ x = 10 ∨ x = 11 ∨ x = 12 ∨ x = 13 ∨ x = 14 ∨ x = 15 ∨ x = 16 ∨ x = 17 ∨ x = 18 ∨ x = 19 ∨ x = 20 ∨ x = 21 ∨ x = 22 ∨ x = 23 ∨ x = 24 ∨ x = 25 ∨ x = 26 ∨ x = 27 ∨ x = 28 ∨ (x.toInt < 0 ∨ 28 < x.toInt) := by
  by_cases h : x.toInt < 0 ∨ 28 < x.toInt
  · exact Or.inr (Or.inr (Or.inr (Or.inr (Or.inr (Or.inr (Or.inr (Or.inr (Or.inr (Or.inr (Or.inr (Or.inr (Or.inr (Or.inr (Or.inr (Or.inr (Or.inr (Or.inr (Or.inr (Or.inr (Or.inr (Or.inr (Or.inr (Or.inr (Or.inr (Or.inr (Or.inr (Or.inr (Or.inr (h)))))))))))))))))))))))))))))
  · have hh : x.toInt = 0 ∨ x.toInt = 1 ∨ x.toInt = 2 ∨ x.toInt = 3 ∨ x.toInt = 4 ∨ x.toInt = 5 ∨ x.toInt = 6 ∨ x.toInt = 7 ∨ x.toInt = 8 ∨ x.toInt = 9 ∨ x.toInt = 10 ∨ x.toInt = 11 ∨ x.toInt = 12 ∨ x.toInt = 13 ∨ x.toInt = 14 ∨ x.toInt = 15 ∨ x.toInt = 16 ∨ x.toInt = 17 ∨ x.toInt = 18 ∨ x.toInt = 19 ∨ x.toInt = 20 ∨ x.toInt = 21 ∨ x.toInt = 22 ∨ x.toInt = 23 ∨ x.toInt = 24 ∨ x.toInt = 25 ∨ x.toInt = 26 ∨ x.toInt = 27 ∨ x.toInt = 28 := by omega
    rcases hh with h | h | h | h | h | h | h | h | h | h | h | h | h | h | h | h | h | h | h | h | h | h | h | h | h | h | h | h | h
    · exact Or.inl (Int32.toInt_inj.mp (by rw [h]; rfl))
    · exact Or.inr (Or.inl (Int32.toInt_inj.mp (by rw [h]; rfl)))
    · exact Or.inr (Or.inr (Or.inl (Int32.toInt_inj.mp (by rw [h]; rfl))))
    · exact Or.inr (Or.inr (Or.inr (Or.inl (Int32.toInt_inj.mp (by rw [h]; rfl)))))
    · exact Or.inr (Or.inr (Or.inr (Or.inr (Or.inl (Int32.toInt_inj.mp (by rw [h]; rfl))))))
    · exact Or.inr (Or.inr (Or.inr (Or.inr (Or.inr (Or.inl (Int32.toInt_inj.mp (by rw [h]; rfl)))))))
    · exact Or.inr (Or.inr (Or.inr (Or.inr (Or.inr (Or.inr (Or.inl (Int32.toInt_inj.mp (by rw [h]; rfl))))))))
    · exact Or.inr (Or.inr (Or.inr (Or.inr (Or.inr (Or.inr (Or.inr (Or.inl (Int32.toInt_inj.mp (by rw [h]; rfl)))))))))
    · exact Or.inr (Or.inr (Or.inr (Or.inr (Or.inr (Or.inr (Or.inr (Or.inr (Or.inl (Int32.toInt_inj.mp (by rw [h]; rfl))))))))))
    · exact Or.inr (Or.inr (Or.inr (Or.inr (Or.inr (Or.inr (Or.inr (Or.inr (Or.inr (Or.inl (Int32.toInt_inj.mp (by rw [h]; rfl)))))))))))
    · exact Or.inr (Or.inr (Or.inr (Or.inr (Or.inr (Or.inr (Or.inr (Or.inr (Or.inr (Or.inr (Or.inl (Int32.toInt_inj.mp (by rw [h]; rfl))))))))))))
    · exact Or.inr (Or.inr (Or.inr (Or.inr (Or.inr (Or.inr (Or.inr (Or.inr (Or.inr (Or.inr (Or.inr (Or.inl (Int32.toInt_inj.mp (by rw [h]; rfl)))))))))))))
    · exact Or.inr (Or.inr (Or.inr (Or.inr (Or.inr (Or.inr (Or.inr (Or.inr (Or.inr (Or.inr (Or.inr (Or.inr (Or.inl (Int32.toInt_inj.mp (by rw [h]; rfl))))))))))))))
    · exact Or.inr (Or.inr (Or.inr (Or.inr (Or.inr (Or.inr (Or.inr (Or.inr (Or.inr (Or.inr (Or.inr (Or.inr (Or.inr (Or.inl (Int32.toInt_inj.mp (by rw [h]; rfl)))))))))))))))
    · exact Or.inr (Or.inr (Or.inr (Or.inr (Or.inr (Or.inr (Or.inr (Or.inr (Or.inr (Or.inr (Or.inr (Or.inr (Or.inr (Or.inr (Or.inl (Int32.toInt_inj.mp (by rw [h]; rfl))))))))))))))))
    · exact Or.inr (Or.inr (Or.inr (Or.inr (Or.inr (Or.inr (Or.inr (Or.inr (Or.inr (Or.inr (Or.inr (Or.inr (Or.inr (Or.inr (Or.inr (Or.inl (Int32.toInt_inj.mp (by rw [h]; rfl)))))))))))))))))
    · exact Or.inr (Or.inr (Or.inr (Or.inr (Or.inr (Or.inr (Or.inr (Or.inr (Or.inr (Or.inr (Or.inr (Or.inr (Or.inr (Or.inr (Or.inr (Or.inr (Or.inl (Int32.toInt_inj.mp (by rw [h]; rfl))))))))))))))))))
    · exact Or.inr (Or.inr (Or.inr (Or.inr (Or.inr (Or.inr (Or.inr (Or.inr (Or.inr (Or.inr (Or.inr (Or.inr (Or.inr (Or.inr (Or.inr (Or.inr (Or.inr (Or.inl (Int32.toInt_inj.mp (by rw [h]; rfl)))))))))))))))))))
    · exact Or.inr (Or.inr (Or.inr (Or.inr (Or.inr (Or.inr (Or.inr (Or.inr (Or.inr (Or.inr (Or.inr (Or.inr (Or.inr (Or.inr (Or.inr (Or.inr (Or.inr (Or.inr (Or.inl (Int32.toInt_inj.mp (by rw [h]; rfl))))))))))))))))))))
    · exact Or.inr (Or.inr (Or.inr (Or.inr (Or.inr (Or.inr (Or.inr (Or.inr (Or.inr (Or.inr (Or.inr (Or.inr (Or.inr (Or.inr (Or.inr (Or.inr (Or.inr (Or.inr (Or.inr (Or.inl (Int32.toInt_inj.mp (by rw [h]; rfl)))))))))))))))))))))
    · exact Or.inr (Or.inr (Or.inr (Or.inr (Or.inr (Or.inr (Or.inr (Or.inr (Or.inr (Or.inr (Or.inr (Or.inr (Or.inr (Or.inr (Or.inr (Or.inr (Or.inr (Or.inr (Or.inr (Or.inr (Or.inl (Int32.toInt_inj.mp (by rw [h]; rfl))))))))))))))))))))))
    · exact Or.inr (Or.inr (Or.inr (Or.inr (Or.inr (Or.inr (Or.inr (Or.inr (Or.inr (Or.inr (Or.inr (Or.inr (Or.inr (Or.inr (Or.inr (Or.inr (Or.inr (Or.inr (Or.inr (Or.inr (Or.inr (Or.inl (Int32.toInt_inj.mp (by rw [h]; rfl)))))))))))))))))))))))
    · exact Or.inr (Or.inr (Or.inr (Or.inr (Or.inr (Or.inr (Or.inr (Or.inr (Or.inr (Or.inr (Or.inr (Or.inr (Or.inr (Or.inr (Or.inr (Or.inr (Or.inr (Or.inr (Or.inr (Or.inr (Or.inr (Or.inr (Or.inl (Int32.toInt_inj.mp (by rw [h]; rfl))))))))))))))))))))))))
    · exact Or.inr (Or.inr (Or.inr (Or.inr (Or.inr (Or.inr (Or.inr (Or.inr (Or.inr (Or.inr (Or.inr (Or.inr (Or.inr (Or.inr (Or.inr (Or.inr (Or.inr (Or.inr (Or.inr (Or.inr (Or.inr (Or.inr (Or.inr (Or.inl (Int32.toInt_inj.mp (by rw [h]; rfl)))))))))))))))))))))))))
    · exact Or.inr (Or.inr (Or.inr (Or.inr (Or.inr (Or.inr (Or.inr (Or.inr (Or.inr (Or.inr (Or.inr (Or.inr (Or.inr (Or.inr (Or.inr (Or.inr (Or.inr (Or.inr (Or.inr (Or.inr (Or.inr (Or.inr (Or.inr (Or.inr (Or.inl (Int32.toInt_inj.mp (by rw [h]; rfl))))))))))))))))))))))))))
    · exact Or.inr (Or.inr (Or.inr (Or.inr (Or.inr (Or.inr (Or.inr (Or.inr (Or.inr (Or.inr (Or.inr (Or.inr (Or.inr (Or.inr (Or.inr (Or.inr (Or.inr (Or.inr (Or.inr (Or.inr (Or.inr (Or.inr (Or.inr (Or.inr (Or.inr (Or.inl (Int32.toInt_inj.mp (by rw [h]; rfl)))))))))))))))))))))))))))
    · exact Or.inr (Or.inr (Or.inr (Or.inr (Or.inr (Or.inr (Or.inr (Or.inr (Or.inr (Or.inr (Or.inr (Or.inr (Or.inr (Or.inr (Or.inr (Or.inr (Or.inr (Or.inr (Or.inr (Or.inr (Or.inr (Or.inr (Or.inr (Or.inr (Or.inr (Or.inr (Or.inl (Int32.toInt_inj.mp (by rw [h]; rfl))))))))))))))))))))))))))))
    · exact Or.inr (Or.inr (Or.inr (Or.inr (Or.inr (Or.inr (Or.inr (Or.inr (Or.inr (Or.inr (Or.inr (Or.inr (Or.inr (Or.inr (Or.inr (Or.inr (Or.inr (Or.inr (Or.inr (Or.inr (Or.inr (Or.inr (Or.inr (Or.inr (Or.inr (Or.inr (Or.inr (Or.inl (Int32.toInt_inj.mp (by rw [h]; rfl)))))))))))))))))))))))))))))
    · exact Or.inr (Or.inr (Or.inr (Or.inr (Or.inr (Or.inr (Or.inr (Or.inr (Or.inr (Or.inr (Or.inr (Or.inr (Or.inr (Or.inr (Or.inr (Or.inr (Or.inr (Or.inr (Or.inr (Or.inr (Or.inr (Or.inr (Or.inr (Or.inr (Or.inr (Or.inr (Or.inr (Or.inr (Or.inl (Int32.toInt_inj.mp (by rw [h]; rfl))))))))))))))))))))))))))))))
theorem lgc_lt {x y : Int64} : lg_cmp x y < 0 ↔ x < y := by
  unfold lg_cmp
  simp only [gt_iff_lt, Int64.lt_iff_toInt_lt, ← Int64.toInt_inj]
  repeat' split
  · rename_i h; constructor
    · intro q; exact absurd q (by decide)
    · intro q; omega
  · rename_i h1 h2; constructor
    · intro q; exact absurd q (by decide)
    · intro q; omega
  · rename_i h1 h2; constructor
    · intro q; omega
    · intro q; decide
theorem lgc_eq {x y : Int64} : lg_cmp x y = 0 ↔ x = y := by
  unfold lg_cmp
  simp only [gt_iff_lt, Int64.lt_iff_toInt_lt, ← Int64.toInt_inj]
  repeat' split
  · rename_i h; constructor
    · intro q; exact absurd q (by decide)
    · intro q; omega
  · rename_i h1 h2; exact ⟨fun _ => h2, fun _ => rfl⟩
  · rename_i h1 h2; constructor
    · intro q; exact absurd q (by decide)
    · intro q; exact absurd q h2
theorem lgc_ge {x y : Int64} : 0 ≤ lg_cmp x y ↔ y ≤ x := lg_cmp_ge x y
/-! sheets: their places -/
def Sh (S : Nat) : Prop := S = 5 ∨ S = 12 ∨ S = 19 ∨ S = 26
theorem sh_kd {S : Nat} (h : Sh S) : kd S = 4 := by rcases h with rfl | rfl | rfl | rfl <;> rfl
theorem sh_t0 {S : Nat} (h : Sh S) : tp S 0 = S + 1 := by rcases h with rfl | rfl | rfl | rfl <;> rfl
theorem sh_t1 {S : Nat} (h : Sh S) : tp S 1 = S + 2 := by rcases h with rfl | rfl | rfl | rfl <;> rfl
theorem sh_k1 {S : Nat} (h : Sh S) : kd (S + 1) = 14 := by rcases h with rfl | rfl | rfl | rfl <;> rfl
theorem sh_k2 {S : Nat} (h : Sh S) : kd (S + 2) = 11 := by rcases h with rfl | rfl | rfl | rfl <;> rfl
theorem sh_l1 {S : Nat} (h : Sh S) : ln (S + 1) = 4 := by rcases h with rfl | rfl | rfl | rfl <;> rfl
theorem sh_l2 {S : Nat} (h : Sh S) : ln (S + 2) = 25 := by rcases h with rfl | rfl | rfl | rfl <;> rfl
theorem sh_tp {S i : Nat} (h : Sh S) (hi : i < 4) : tp (S + 1) i = S + 3 + i := by
  rcases h with rfl | rfl | rfl | rfl <;> (rcases (show i = 0 ∨ i = 1 ∨ i = 2 ∨ i = 3 by omega) with rfl | rfl | rfl | rfl <;> rfl)
theorem sh_kp {S i : Nat} (h : Sh S) (hi : i < 4) : kd (S + 3 + i) = 2 := by
  rcases h with rfl | rfl | rfl | rfl <;> (rcases (show i = 0 ∨ i = 1 ∨ i = 2 ∨ i = 3 by omega) with rfl | rfl | rfl | rfl <;> rfl)
def mnI (x y : Int32) : Int32 := if y < x then y else x
def abI (x : Int32) : Int32 := if 0 ≤ x then x else -x
/-! what the class's least methods answer -/
def tensF (p : Int32) : Int64 := if 0 ≤ p ∧ p ≤ 12 then svJ p.toNatClampNeg else 1
def ordF (p : Int32) : Int32 := if 0 ≤ p ∧ p ≤ 4 then svI 4 p.toNatClampNeg else 1
def rem32 (x y : Int32) : Int32 := x - x / y * y
def rem64 (x y : Int64) : Int64 := x - x / y * y
def figF (row : Int64) (f : Int32) : Int32 := (rem64 (row / tensF f) 10).toInt32
def rgt (e : Int32) : Int32 := svI 0 e.toNatClampNeg
def upw (e : Int32) : Int32 := svI 1 e.toNatClampNeg
def nbF (dot e : Int32) : Int32 := if (0 ≤ dot ∧ dot < 25) ∧ (0 ≤ e ∧ e < 8) then (if (0 ≤ rem32 dot 5 + rgt e ∧ rem32 dot 5 + rgt e ≤ 4) ∧ (0 ≤ dot / 5 + upw e ∧ dot / 5 + upw e ≤ 4) then 5 * (dot / 5 + upw e) + (rem32 dot 5 + rgt e) else -9) else -9
def plF (a b e : Int32) : Int32 := abI (rgt e * b - upw e * a)
def acF (kind a b e : Int32) : Int32 := if 0 ≤ e ∧ e < 8 then (if kind = 0 then plF a b e else if kind = 1 then (if 0 ≤ upw e then 1 else 1 + abI a + abI b) else if kind = 2 then 1 + plF a b e else mnI 2 (1 + plF a b e)) else 0
def lyF (down kind a b e left : Int32) : Int32 := if down = 0 then 0 else mnI (acF kind a b e) left
def inkF (v : Mm) (S : Nat) (dot : Int32) : Int32 := if 0 ≤ dot ∧ dot < 25 then v (S + 2) dot.toNatClampNeg else 0
def stM (v : Mm) (S : Nat) (dot x : Int32) : Mm := if 0 ≤ dot ∧ dot < 25 then upd2 v (S + 2) dot.toNatClampNeg x else v
def mvL (v : Mm) (k : Nat) (e : Int32) : Int32 := lyF (v k 6) (v k 1) (v k 2) (v k 3) e (v k 4)
def mvV (v : Mm) (S k : Nat) (e : Int32) : Mm :=
  let v2 := upd2 (upd2 v k 0 (nbF (v k 0) e)) k 4 (v k 4 - mvL v k e)
  let v3 := stM v2 S (nbF (v k 0) e) (mnI 99 (inkF v2 S (nbF (v k 0) e) + mvL v k e))
  upd2 v3 S 3 (v3 S 3 + 1)
theorem svJ_ne0 : ∀ i, i < 13 → ¬ svJ i = 0 := by decide
theorem tensF_ne0 (p : Int32) : ¬ tensF p = 0 := by
  unfold tensF
  split
  · rename_i h
    obtain ⟨j, hj, e⟩ := vp_in_of (vin_le (n := 13) (by decide) h (by decide)) (by decide)
    subst e
    rw [nI_clamp (by omega)]
    exact svJ_ne0 j hj
  · decide
end
section
theorem pf_J9_min_7cf53 : plainFor yJ9_min_7cf53 = true := by decide +kernel
theorem pf_J9_abs_0f7a4 : plainFor yJ9_abs_0f7a4 = true := by decide +kernel
theorem pf_J9_floorMod_7cf53 : plainFor yJ9_floorMod_7cf53 = true := by decide +kernel
theorem pf_J6_bitCount_0f7a4 : plainFor yJ6_bitCount_0f7a4 = true := by decide +kernel
theorem pf_J7_fill_53178 : plainFor yJ7_fill_53178 = true := by decide +kernel
/-! the least ones: static methods, the pen -/
theorem c_X9_isWithin {x y : Int32} {v : Mm} {L : Lm}  : Fn yX9_isWithin cX9_isWithin 2 (some .boolean) 0 [.int x, .int y] v L (some (.int (b01 (0 ≤ x ∧ x ≤ y)))) v L := by
  refine Fq.of (plainFor_of_name (by decide)) [some (.int x), some (.int y)] rfl (Nat.le_of_ble_eq_true rfl) ?_
  refine g_iload0 (pc := 0) dX9_isWithin_0 ?_
  refine g_if_lt (pc := 1) 13 dX9_isWithin_1 (by decide) (fun h1 => ?_) (fun h1 => ?_)
  · skip
    refine g_iconst (pc := 13) (0) dX9_isWithin_13 (by decide) ?_
    refine g_zret (pc := 14) dX9_isWithin_14 rfl (by first | exact Or.inl rfl | exact Or.inr rfl | assumption) ?_
    exact ⟨congrArg (fun t => some (Value.int t)) (by unfold b01; (repeat' split) <;> first | rfl | (exfalso; simp only [b01_eq0, b01_ne0, i32lt, i32le] at *; omega)), rfl, rfl⟩
  · skip
    refine g_iload0 (pc := 4) dX9_isWithin_4 ?_
    refine g_iload1 (pc := 5) dX9_isWithin_5 ?_
    refine g_icmp_gt (pc := 6) 13 dX9_isWithin_6 (by decide) (fun h6 => ?_) (fun h6 => ?_)
    · skip
      refine g_iconst (pc := 13) (0) dX9_isWithin_13 (by decide) ?_
      refine g_zret (pc := 14) dX9_isWithin_14 rfl (by first | exact Or.inl rfl | exact Or.inr rfl | assumption) ?_
      exact ⟨congrArg (fun t => some (Value.int t)) (by unfold b01; (repeat' split) <;> first | rfl | (exfalso; simp only [b01_eq0, b01_ne0, i32lt, i32le] at *; omega)), rfl, rfl⟩
    · skip
      refine g_iconst (pc := 9) (1) dX9_isWithin_9 (by decide) ?_
      refine g_goto (pc := 10) 14 dX9_isWithin_10 (by decide) ?_
      refine g_zret (pc := 14) dX9_isWithin_14 rfl (by first | exact Or.inl rfl | exact Or.inr rfl | assumption) ?_
      exact ⟨congrArg (fun t => some (Value.int t)) (by unfold b01; (repeat' split) <;> first | rfl | (exfalso; simp only [b01_eq0, b01_ne0, i32lt, i32le] at *; omega)), rfl, rfl⟩
theorem c_X9_isDot {x : Int32} {v : Mm} {L : Lm}  : Fn yX9_isDot cX9_isDot 1 (some .boolean) 0 [.int x] v L (some (.int (b01 (0 ≤ x ∧ x < 25)))) v L := by
  refine Fq.of (plainFor_of_name (by decide)) [some (.int x)] rfl (Nat.le_of_ble_eq_true rfl) ?_
  refine g_iload0 (pc := 0) dX9_isDot_0 ?_
  refine g_if_lt (pc := 1) 14 dX9_isDot_1 (by decide) (fun h1 => ?_) (fun h1 => ?_)
  · skip
    refine g_iconst (pc := 14) (0) dX9_isDot_14 (by decide) ?_
    refine g_zret (pc := 15) dX9_isDot_15 rfl (by first | exact Or.inl rfl | exact Or.inr rfl | assumption) ?_
    exact ⟨congrArg (fun t => some (Value.int t)) (by unfold b01; (repeat' split) <;> first | rfl | (exfalso; simp only [b01_eq0, b01_ne0, i32lt, i32le] at *; omega)), rfl, rfl⟩
  · skip
    refine g_iload0 (pc := 4) dX9_isDot_4 ?_
    refine g_bipush (pc := 5) (25) dX9_isDot_5 (by decide) ?_
    refine g_icmp_ge (pc := 7) 14 dX9_isDot_7 (by decide) (fun h7 => ?_) (fun h7 => ?_)
    · skip
      refine g_iconst (pc := 14) (0) dX9_isDot_14 (by decide) ?_
      refine g_zret (pc := 15) dX9_isDot_15 rfl (by first | exact Or.inl rfl | exact Or.inr rfl | assumption) ?_
      exact ⟨congrArg (fun t => some (Value.int t)) (by unfold b01; (repeat' split) <;> first | rfl | (exfalso; simp only [b01_eq0, b01_ne0, i32lt, i32le] at *; omega)), rfl, rfl⟩
    · skip
      refine g_iconst (pc := 10) (1) dX9_isDot_10 (by decide) ?_
      refine g_goto (pc := 11) 15 dX9_isDot_11 (by decide) ?_
      refine g_zret (pc := 15) dX9_isDot_15 rfl (by first | exact Or.inl rfl | exact Or.inr rfl | assumption) ?_
      exact ⟨congrArg (fun t => some (Value.int t)) (by unfold b01; (repeat' split) <;> first | rfl | (exfalso; simp only [b01_eq0, b01_ne0, i32lt, i32le] at *; omega)), rfl, rfl⟩
theorem c_X9_isDirection {x : Int32} {v : Mm} {L : Lm}  : Fn yX9_isDirection cX9_isDirection 1 (some .boolean) 0 [.int x] v L (some (.int (b01 (0 ≤ x ∧ x < 8)))) v L := by
  refine Fq.of (plainFor_of_name (by decide)) [some (.int x)] rfl (Nat.le_of_ble_eq_true rfl) ?_
  refine g_iload0 (pc := 0) dX9_isDirection_0 ?_
  refine g_if_lt (pc := 1) 14 dX9_isDirection_1 (by decide) (fun h1 => ?_) (fun h1 => ?_)
  · skip
    refine g_iconst (pc := 14) (0) dX9_isDirection_14 (by decide) ?_
    refine g_zret (pc := 15) dX9_isDirection_15 rfl (by first | exact Or.inl rfl | exact Or.inr rfl | assumption) ?_
    exact ⟨congrArg (fun t => some (Value.int t)) (by unfold b01; (repeat' split) <;> first | rfl | (exfalso; simp only [b01_eq0, b01_ne0, i32lt, i32le] at *; omega)), rfl, rfl⟩
  · skip
    refine g_iload0 (pc := 4) dX9_isDirection_4 ?_
    refine g_bipush (pc := 5) (8) dX9_isDirection_5 (by decide) ?_
    refine g_icmp_ge (pc := 7) 14 dX9_isDirection_7 (by decide) (fun h7 => ?_) (fun h7 => ?_)
    · skip
      refine g_iconst (pc := 14) (0) dX9_isDirection_14 (by decide) ?_
      refine g_zret (pc := 15) dX9_isDirection_15 rfl (by first | exact Or.inl rfl | exact Or.inr rfl | assumption) ?_
      exact ⟨congrArg (fun t => some (Value.int t)) (by unfold b01; (repeat' split) <;> first | rfl | (exfalso; simp only [b01_eq0, b01_ne0, i32lt, i32le] at *; omega)), rfl, rfl⟩
    · skip
      refine g_iconst (pc := 10) (1) dX9_isDirection_10 (by decide) ?_
      refine g_goto (pc := 11) 15 dX9_isDirection_11 (by decide) ?_
      refine g_zret (pc := 15) dX9_isDirection_15 rfl (by first | exact Or.inl rfl | exact Or.inr rfl | assumption) ?_
      exact ⟨congrArg (fun t => some (Value.int t)) (by unfold b01; (repeat' split) <;> first | rfl | (exfalso; simp only [b01_eq0, b01_ne0, i32lt, i32le] at *; omega)), rfl, rfl⟩
theorem c_J9_min_7cf53 {x y : Int32} {v : Mm} {L : Lm}  : Fn yJ9_min_7cf53 cJ9_min_7cf53 2 (some .int) 0 [.int x, .int y] v L (some (.int (mnI x y))) v L := by
  refine Fq.of (pf_J9_min_7cf53) [some (.int x), some (.int y)] rfl (Nat.le_of_ble_eq_true rfl) ?_
  refine g_iload0 (pc := 0) dJ9_min_7cf53_0 ?_
  refine g_iload1 (pc := 1) dJ9_min_7cf53_1 ?_
  refine g_icmp_gt (pc := 2) 9 dJ9_min_7cf53_2 (by decide) (fun h2 => ?_) (fun h2 => ?_)
  · skip
    refine g_iload1 (pc := 9) dJ9_min_7cf53_9 ?_
    refine g_iret (pc := 10) dJ9_min_7cf53_10 rfl ?_
    exact ⟨congrArg (fun t => some (Value.int t)) (by unfold mnI; (repeat' split) <;> first | rfl | (exfalso; simp only [b01_eq0, b01_ne0, i32lt, i32le] at *; omega)), rfl, rfl⟩
  · skip
    refine g_iload0 (pc := 5) dJ9_min_7cf53_5 ?_
    refine g_goto (pc := 6) 10 dJ9_min_7cf53_6 (by decide) ?_
    refine g_iret (pc := 10) dJ9_min_7cf53_10 rfl ?_
    exact ⟨congrArg (fun t => some (Value.int t)) (by unfold mnI; (repeat' split) <;> first | rfl | (exfalso; simp only [b01_eq0, b01_ne0, i32lt, i32le] at *; omega)), rfl, rfl⟩
theorem c_J9_abs_0f7a4 {x : Int32} {v : Mm} {L : Lm}  : Fn yJ9_abs_0f7a4 cJ9_abs_0f7a4 1 (some .int) 0 [.int x] v L (some (.int (abI x))) v L := by
  refine Fq.of (pf_J9_abs_0f7a4) [some (.int x)] rfl (Nat.le_of_ble_eq_true rfl) ?_
  refine g_iload0 (pc := 0) dJ9_abs_0f7a4_0 ?_
  refine g_if_ge (pc := 1) 9 dJ9_abs_0f7a4_1 (by decide) (fun h1 => ?_) (fun h1 => ?_)
  · skip
    refine g_iload0 (pc := 9) dJ9_abs_0f7a4_9 ?_
    refine g_iret (pc := 10) dJ9_abs_0f7a4_10 rfl ?_
    exact ⟨congrArg (fun t => some (Value.int t)) (by unfold abI; (repeat' split) <;> first | rfl | (exfalso; simp only [b01_eq0, b01_ne0, i32lt, i32le] at *; omega)), rfl, rfl⟩
  · skip
    refine g_iload0 (pc := 4) dJ9_abs_0f7a4_4 ?_
    refine g_ineg (pc := 5) dJ9_abs_0f7a4_5 ?_
    refine g_goto (pc := 6) 10 dJ9_abs_0f7a4_6 (by decide) ?_
    refine g_iret (pc := 10) dJ9_abs_0f7a4_10 rfl ?_
    exact ⟨congrArg (fun t => some (Value.int t)) (by unfold abI; (repeat' split) <;> first | rfl | (exfalso; simp only [b01_eq0, b01_ne0, i32lt, i32le] at *; omega)), rfl, rfl⟩
theorem c_J9_floorMod_7cf53 {x y : Int32} {v : Mm} {L : Lm} (hy : ¬ y = 0) : Fn yJ9_floorMod_7cf53 cJ9_floorMod_7cf53 3 (some .int) 0 [.int x, .int y] v L (some (.int (if 0 ≤ x ^^^ y then x - x / y * y else if x - x / y * y = 0 then x - x / y * y else x - x / y * y + y))) v L := by
  refine Fq.of (pf_J9_floorMod_7cf53) [some (.int x), some (.int y), none] rfl (Nat.le_of_ble_eq_true rfl) ?_
  refine g_iload0 (pc := 0) dJ9_floorMod_7cf53_0 ?_
  refine g_iload1 (pc := 1) dJ9_floorMod_7cf53_1 ?_
  refine g_irem (pc := 2) dJ9_floorMod_7cf53_2 (hy) ?_
  refine g_istore2 (pc := 3) dJ9_floorMod_7cf53_3 (by decide) rfl ?_
  refine g_iload0 (pc := 4) dJ9_floorMod_7cf53_4 ?_
  refine g_iload1 (pc := 5) dJ9_floorMod_7cf53_5 ?_
  refine g_ixor (pc := 6) dJ9_floorMod_7cf53_6 ?_
  refine g_if_ge (pc := 7) 18 dJ9_floorMod_7cf53_7 (by decide) (fun h7 => ?_) (fun h7 => ?_)
  · skip
    refine g_iload2 (pc := 18) dJ9_floorMod_7cf53_18 ?_
    refine g_iret (pc := 19) dJ9_floorMod_7cf53_19 rfl ?_
    exact ⟨by simp_all, rfl, rfl⟩
  · skip
    refine g_iload2 (pc := 10) dJ9_floorMod_7cf53_10 ?_
    refine g_if_eq (pc := 11) 18 dJ9_floorMod_7cf53_11 (by decide) (fun h11 => ?_) (fun h11 => ?_)
    · skip
      refine g_iload2 (pc := 18) dJ9_floorMod_7cf53_18 ?_
      refine g_iret (pc := 19) dJ9_floorMod_7cf53_19 rfl ?_
      exact ⟨by simp_all, rfl, rfl⟩
    · skip
      refine g_iload2 (pc := 14) dJ9_floorMod_7cf53_14 ?_
      refine g_iload1 (pc := 15) dJ9_floorMod_7cf53_15 ?_
      refine g_iadd (pc := 16) dJ9_floorMod_7cf53_16 ?_
      refine g_iret (pc := 17) dJ9_floorMod_7cf53_17 rfl ?_
      exact ⟨by simp_all, rfl, rfl⟩
theorem c_X2_copy {k j : Nat} {v : Mm} {L : Lm} (hk : kd k = 2) (hj : kd j = 2) (hne : k ≠ j) (h6 : v j 6 = 0 ∨ v j 6 = 1) : Fn yX2_copy cX2_copy 2 none 0 [.ref k, .ref j] v L none (upd2 (upd2 (upd2 (upd2 (upd2 (upd2 (upd2 v k 0 (v j 0)) k 1 (v j 1)) k 2 (v j 2)) k 3 (v j 3)) k 4 (v j 4)) k 5 (v j 5)) k 6 (v j 6)) L := by
  refine Fq.of (plainFor_of_name (by decide)) [some (.ref k), some (.ref j)] rfl (Nat.le_of_ble_eq_true rfl) ?_
  first | refine g_aload0 (pc := 0) dX2_copy_0 ?_ | refine g_aloadN0 (pc := 0) dX2_copy_0 ?_
  first | refine g_aload1 (pc := 1) dX2_copy_1 ?_ | refine g_aloadN1 (pc := 1) dX2_copy_1 ?_
  refine g_getI (pc := 2) (j := 0) cf2 dX2_copy_2 fl_RX2_9 (by decide) (by decide) (by first | rfl | assumption) ?_
  refine g_putI (pc := 5) (j := 0) cf2 dX2_copy_5 fl_RX2_9 (by decide) rfl rfl (by decide) (by first | rfl | assumption) ?_
  first | refine g_aload0 (pc := 8) dX2_copy_8 ?_ | refine g_aloadN0 (pc := 8) dX2_copy_8 ?_
  first | refine g_aload1 (pc := 9) dX2_copy_9 ?_ | refine g_aloadN1 (pc := 9) dX2_copy_9 ?_
  refine g_getI (pc := 10) (j := 1) cf2 dX2_copy_10 fl_RX2_15 (by decide) (by decide) (by first | rfl | assumption) ?_
  refine g_putI (pc := 13) (j := 1) cf2 dX2_copy_13 fl_RX2_15 (by decide) rfl rfl (by decide) (by first | rfl | assumption) ?_
  first | refine g_aload0 (pc := 16) dX2_copy_16 ?_ | refine g_aloadN0 (pc := 16) dX2_copy_16 ?_
  first | refine g_aload1 (pc := 17) dX2_copy_17 ?_ | refine g_aloadN1 (pc := 17) dX2_copy_17 ?_
  refine g_getI (pc := 18) (j := 2) cf2 dX2_copy_18 fl_RX2_18 (by decide) (by decide) (by first | rfl | assumption) ?_
  refine g_putI (pc := 21) (j := 2) cf2 dX2_copy_21 fl_RX2_18 (by decide) rfl rfl (by decide) (by first | rfl | assumption) ?_
  first | refine g_aload0 (pc := 24) dX2_copy_24 ?_ | refine g_aloadN0 (pc := 24) dX2_copy_24 ?_
  first | refine g_aload1 (pc := 25) dX2_copy_25 ?_ | refine g_aloadN1 (pc := 25) dX2_copy_25 ?_
  refine g_getI (pc := 26) (j := 3) cf2 dX2_copy_26 fl_RX2_21 (by decide) (by decide) (by first | rfl | assumption) ?_
  refine g_putI (pc := 29) (j := 3) cf2 dX2_copy_29 fl_RX2_21 (by decide) rfl rfl (by decide) (by first | rfl | assumption) ?_
  first | refine g_aload0 (pc := 32) dX2_copy_32 ?_ | refine g_aloadN0 (pc := 32) dX2_copy_32 ?_
  first | refine g_aload1 (pc := 33) dX2_copy_33 ?_ | refine g_aloadN1 (pc := 33) dX2_copy_33 ?_
  refine g_getI (pc := 34) (j := 4) cf2 dX2_copy_34 fl_RX2_24 (by decide) (by decide) (by first | rfl | assumption) ?_
  refine g_putI (pc := 37) (j := 4) cf2 dX2_copy_37 fl_RX2_24 (by decide) rfl rfl (by decide) (by first | rfl | assumption) ?_
  first | refine g_aload0 (pc := 40) dX2_copy_40 ?_ | refine g_aloadN0 (pc := 40) dX2_copy_40 ?_
  first | refine g_aload1 (pc := 41) dX2_copy_41 ?_ | refine g_aloadN1 (pc := 41) dX2_copy_41 ?_
  refine g_getI (pc := 42) (j := 5) cf2 dX2_copy_42 fl_RX2_27 (by decide) (by decide) (by first | rfl | assumption) ?_
  refine g_putI (pc := 45) (j := 5) cf2 dX2_copy_45 fl_RX2_27 (by decide) rfl rfl (by decide) (by first | rfl | assumption) ?_
  first | refine g_aload0 (pc := 48) dX2_copy_48 ?_ | refine g_aloadN0 (pc := 48) dX2_copy_48 ?_
  first | refine g_aload1 (pc := 49) dX2_copy_49 ?_ | refine g_aloadN1 (pc := 49) dX2_copy_49 ?_
  refine g_getI (pc := 50) (j := 6) cf2 dX2_copy_50 fl_RX2_30 (by decide) (by decide) (by first | rfl | assumption) ?_
  refine g_putZ (pc := 53) (j := 6) cf2 dX2_copy_53 fl_RX2_30 (by decide) rfl rfl (by decide) (by first | rfl | assumption) (by simpa [upd2, Ne.symm hne] using h6) ?_
  refine g_vret (pc := 56) dX2_copy_56 rfl ?_
  exact ⟨rfl, by simp only [upd2, Ne.symm hne, false_and, if_false], rfl⟩
theorem c_X2_isFull {k : Nat} {v : Mm} {L : Lm} (hk : kd k = 2) : Fn yX2_isFull cX2_isFull 1 (some .boolean) 0 [.ref k] v L (some (.int (b01 (v k 4 = v k 5)))) v L := by
  refine Fq.of (plainFor_of_name (by decide)) [some (.ref k)] rfl (Nat.le_of_ble_eq_true rfl) ?_
  first | refine g_aload0 (pc := 0) dX2_isFull_0 ?_ | refine g_aloadN0 (pc := 0) dX2_isFull_0 ?_
  refine g_getI (pc := 1) (j := 4) cf2 dX2_isFull_1 fl_RX2_24 (by decide) (by decide) (by first | rfl | assumption) ?_
  first | refine g_aload0 (pc := 4) dX2_isFull_4 ?_ | refine g_aloadN0 (pc := 4) dX2_isFull_4 ?_
  refine g_getI (pc := 5) (j := 5) cf2 dX2_isFull_5 fl_RX2_27 (by decide) (by decide) (by first | rfl | assumption) ?_
  refine g_icmp_ne (pc := 8) 15 dX2_isFull_8 (by decide) (fun h8 => ?_) (fun h8 => ?_)
  · skip
    refine g_iconst (pc := 15) (0) dX2_isFull_15 (by decide) ?_
    refine g_zret (pc := 16) dX2_isFull_16 rfl (by first | exact Or.inl rfl | exact Or.inr rfl | assumption) ?_
    exact ⟨by simp_all [b01], rfl, rfl⟩
  · skip
    refine g_iconst (pc := 11) (1) dX2_isFull_11 (by decide) ?_
    refine g_goto (pc := 12) 16 dX2_isFull_12 (by decide) ?_
    refine g_zret (pc := 16) dX2_isFull_16 rfl (by first | exact Or.inl rfl | exact Or.inr rfl | assumption) ?_
    exact ⟨by simp_all [b01], rfl, rfl⟩
theorem c_X2_flip {k : Nat} {v : Mm} {L : Lm} (hk : kd k = 2) : Fn yX2_flip cX2_flip 1 none 0 [.ref k] v L none (upd2 v k 6 (b01 (v k 6 = 0))) L := by
  refine Fq.of (plainFor_of_name (by decide)) [some (.ref k)] rfl (Nat.le_of_ble_eq_true rfl) ?_
  first | refine g_aload0 (pc := 0) dX2_flip_0 ?_ | refine g_aloadN0 (pc := 0) dX2_flip_0 ?_
  first | refine g_aload0 (pc := 1) dX2_flip_1 ?_ | refine g_aloadN0 (pc := 1) dX2_flip_1 ?_
  refine g_getI (pc := 2) (j := 6) cf2 dX2_flip_2 fl_RX2_30 (by decide) (by decide) (by first | rfl | assumption) ?_
  refine g_if_ne (pc := 5) 12 dX2_flip_5 (by decide) (fun h5 => ?_) (fun h5 => ?_)
  · skip
    refine g_iconst (pc := 12) (0) dX2_flip_12 (by decide) ?_
    refine g_putZ (pc := 13) (j := 6) cf2 dX2_flip_13 fl_RX2_30 (by decide) rfl rfl (by decide) (by first | rfl | assumption) (by first | exact Or.inl rfl | exact Or.inr rfl | assumption) ?_
    refine g_vret (pc := 16) dX2_flip_16 rfl ?_
    exact ⟨rfl, by simp_all [b01], rfl⟩
  · skip
    refine g_iconst (pc := 8) (1) dX2_flip_8 (by decide) ?_
    refine g_goto (pc := 9) 13 dX2_flip_9 (by decide) ?_
    refine g_putZ (pc := 13) (j := 6) cf2 dX2_flip_13 fl_RX2_30 (by decide) rfl rfl (by decide) (by first | rfl | assumption) (by first | exact Or.inl rfl | exact Or.inr rfl | assumption) ?_
    refine g_vret (pc := 16) dX2_flip_16 rfl ?_
    exact ⟨rfl, by simp_all [b01], rfl⟩
theorem c_X2_refill {k : Nat} {v : Mm} {L : Lm} (hk : kd k = 2) : Fn yX2_refill cX2_refill 2 (some .int) 0 [.ref k] v L (some (.int (v k 5 - v k 4))) (upd2 v k 4 (v k 5)) L := by
  refine Fq.of (plainFor_of_name (by decide)) [some (.ref k), none] rfl (Nat.le_of_ble_eq_true rfl) ?_
  first | refine g_aload0 (pc := 0) dX2_refill_0 ?_ | refine g_aloadN0 (pc := 0) dX2_refill_0 ?_
  refine g_getI (pc := 1) (j := 5) cf2 dX2_refill_1 fl_RX2_27 (by decide) (by decide) (by first | rfl | assumption) ?_
  first | refine g_aload0 (pc := 4) dX2_refill_4 ?_ | refine g_aloadN0 (pc := 4) dX2_refill_4 ?_
  refine g_getI (pc := 5) (j := 4) cf2 dX2_refill_5 fl_RX2_24 (by decide) (by decide) (by first | rfl | assumption) ?_
  refine g_isub (pc := 8) dX2_refill_8 ?_
  refine g_istore1 (pc := 9) dX2_refill_9 (by decide) rfl ?_
  first | refine g_aload0 (pc := 10) dX2_refill_10 ?_ | refine g_aloadN0 (pc := 10) dX2_refill_10 ?_
  first | refine g_aload0 (pc := 11) dX2_refill_11 ?_ | refine g_aloadN0 (pc := 11) dX2_refill_11 ?_
  refine g_getI (pc := 12) (j := 5) cf2 dX2_refill_12 fl_RX2_27 (by decide) (by decide) (by first | rfl | assumption) ?_
  refine g_putI (pc := 15) (j := 4) cf2 dX2_refill_15 fl_RX2_24 (by decide) rfl rfl (by decide) (by first | rfl | assumption) ?_
  refine g_iload1 (pc := 18) dX2_refill_18 ?_
  refine g_iret (pc := 19) dX2_refill_19 rfl ?_
  exact ⟨rfl, rfl, rfl⟩
theorem c_X2_quarter {k : Nat} {v : Mm} {L : Lm} (hk : kd k = 2) : Fn yX2_quarter cX2_quarter 2 none 0 [.ref k] v L none (upd2 (upd2 v k 2 (-(v k 3))) k 3 (v k 2)) L := by
  refine Fq.of (plainFor_of_name (by decide)) [some (.ref k), none] rfl (Nat.le_of_ble_eq_true rfl) ?_
  first | refine g_aload0 (pc := 0) dX2_quarter_0 ?_ | refine g_aloadN0 (pc := 0) dX2_quarter_0 ?_
  refine g_getI (pc := 1) (j := 2) cf2 dX2_quarter_1 fl_RX2_18 (by decide) (by decide) (by first | rfl | assumption) ?_
  refine g_istore1 (pc := 4) dX2_quarter_4 (by decide) rfl ?_
  first | refine g_aload0 (pc := 5) dX2_quarter_5 ?_ | refine g_aloadN0 (pc := 5) dX2_quarter_5 ?_
  first | refine g_aload0 (pc := 6) dX2_quarter_6 ?_ | refine g_aloadN0 (pc := 6) dX2_quarter_6 ?_
  refine g_getI (pc := 7) (j := 3) cf2 dX2_quarter_7 fl_RX2_21 (by decide) (by decide) (by first | rfl | assumption) ?_
  refine g_ineg (pc := 10) dX2_quarter_10 ?_
  refine g_putI (pc := 11) (j := 2) cf2 dX2_quarter_11 fl_RX2_18 (by decide) rfl rfl (by decide) (by first | rfl | assumption) ?_
  first | refine g_aload0 (pc := 14) dX2_quarter_14 ?_ | refine g_aloadN0 (pc := 14) dX2_quarter_14 ?_
  refine g_iload1 (pc := 15) dX2_quarter_15 ?_
  refine g_putI (pc := 16) (j := 3) cf2 dX2_quarter_16 fl_RX2_21 (by decide) rfl rfl (by decide) (by first | rfl | assumption) ?_
  refine g_vret (pc := 19) dX2_quarter_19 rfl ?_
  exact ⟨rfl, rfl, rfl⟩
theorem c_X2_toldNib {k : Nat} {v : Mm} {L : Lm} (hk : kd k = 2) : Fn yX2_toldNib cX2_toldNib 1 (some .int) 0 [.ref k] v L (some (.int (10 * (v k 2 + 3) + v k 3 + 3))) v L := by
  refine Fq.of (plainFor_of_name (by decide)) [some (.ref k)] rfl (Nat.le_of_ble_eq_true rfl) ?_
  refine g_bipush (pc := 0) (10) dX2_toldNib_0 (by decide) ?_
  first | refine g_aload0 (pc := 2) dX2_toldNib_2 ?_ | refine g_aloadN0 (pc := 2) dX2_toldNib_2 ?_
  refine g_getI (pc := 3) (j := 2) cf2 dX2_toldNib_3 fl_RX2_18 (by decide) (by decide) (by first | rfl | assumption) ?_
  refine g_iconst (pc := 6) (3) dX2_toldNib_6 (by decide) ?_
  refine g_iadd (pc := 7) dX2_toldNib_7 ?_
  refine g_imul (pc := 8) dX2_toldNib_8 ?_
  first | refine g_aload0 (pc := 9) dX2_toldNib_9 ?_ | refine g_aloadN0 (pc := 9) dX2_toldNib_9 ?_
  refine g_getI (pc := 10) (j := 3) cf2 dX2_toldNib_10 fl_RX2_21 (by decide) (by decide) (by first | rfl | assumption) ?_
  refine g_iadd (pc := 13) dX2_toldNib_13 ?_
  refine g_iconst (pc := 14) (3) dX2_toldNib_14 (by decide) ?_
  refine g_iadd (pc := 15) dX2_toldNib_15 ?_
  refine g_iret (pc := 16) dX2_toldNib_16 rfl ?_
  exact ⟨rfl, rfl, rfl⟩
theorem c_X9_tens {x : Int32} {v : Mm} {L : Lm}  : Fn yX9_tens cX9_tens 1 (some .long) 1 [.int x] v L (some (.long (tensF x))) v L := by
  refine Fq.of (plainFor_of_name (by decide)) [some (.int x)] rfl (Nat.le_of_ble_eq_true rfl) ?_
  refine g_iload0 (pc := 0) dX9_tens_0 ?_
  refine g_gets (pc := 1) (j := 5) dX9_tens_1 (by decide) fl_RX9_309 ?_
  refine g_slen (pc := 4) (j := 5) dX9_tens_4 (by decide) ?_
  refine g_iconst (pc := 5) (1) dX9_tens_5 (by decide) ?_
  refine g_isub (pc := 6) dX9_tens_6 ?_
  refine g_fS2 (pc := 7) (c_X9_isWithin) dX9_tens_7 cw_RX9_68 (by decide) (Nat.le_of_ble_eq_true rfl) ?_
  refine g_if_eq (pc := 10) 21 dX9_tens_10 (by decide) (fun h10 => ?_) (fun h10 => ?_)
  · skip
    refine g_lconst (pc := 21) (1) dX9_tens_21 (by decide) ?_
    refine g_lret (pc := 22) dX9_tens_22 rfl ?_
    exact ⟨congrArg (fun t => some (Value.long t)) (by first | exact (if_pos (b01_ne0.mp h10)).symm | exact (if_neg (b01_eq0.mp h10)).symm), rfl, rfl⟩
  · skip
    refine g_gets (pc := 13) (j := 5) dX9_tens_13 (by decide) fl_RX9_309 ?_
    refine g_iload0 (pc := 16) dX9_tens_16 ?_
    refine g_slld (pc := 17) dX9_tens_17 (vin_le (n := 13) (by decide) (b01_ne0.mp h10) (by decide)) ?_
    refine g_goto (pc := 18) 22 dX9_tens_18 (by decide) ?_
    refine g_lret (pc := 22) dX9_tens_22 rfl ?_
    exact ⟨congrArg (fun t => some (Value.long t)) (by first | exact (if_pos (b01_ne0.mp h10)).symm | exact (if_neg (b01_eq0.mp h10)).symm), rfl, rfl⟩
theorem c_X9_orders {x : Int32} {v : Mm} {L : Lm}  : Fn yX9_orders cX9_orders 1 (some .int) 1 [.int x] v L (some (.int (ordF x))) v L := by
  refine Fq.of (plainFor_of_name (by decide)) [some (.int x)] rfl (Nat.le_of_ble_eq_true rfl) ?_
  refine g_iload0 (pc := 0) dX9_orders_0 ?_
  refine g_gets (pc := 1) (j := 4) dX9_orders_1 (by decide) fl_RX9_313 ?_
  refine g_slen (pc := 4) (j := 4) dX9_orders_4 (by decide) ?_
  refine g_iconst (pc := 5) (1) dX9_orders_5 (by decide) ?_
  refine g_isub (pc := 6) dX9_orders_6 ?_
  refine g_fS2 (pc := 7) (c_X9_isWithin) dX9_orders_7 cw_RX9_68 (by decide) (Nat.le_of_ble_eq_true rfl) ?_
  refine g_if_eq (pc := 10) 21 dX9_orders_10 (by decide) (fun h10 => ?_) (fun h10 => ?_)
  · skip
    refine g_iconst (pc := 21) (1) dX9_orders_21 (by decide) ?_
    refine g_iret (pc := 22) dX9_orders_22 rfl ?_
    exact ⟨congrArg (fun t => some (Value.int t)) (by first | exact (if_pos (b01_ne0.mp h10)).symm | exact (if_neg (b01_eq0.mp h10)).symm), rfl, rfl⟩
  · skip
    refine g_gets (pc := 13) (j := 4) dX9_orders_13 (by decide) fl_RX9_313 ?_
    refine g_iload0 (pc := 16) dX9_orders_16 ?_
    refine g_sld (pc := 17) (j := 4) dX9_orders_17 (by decide) (vin_le (n := 5) (by decide) (b01_ne0.mp h10) (by decide)) ?_
    refine g_goto (pc := 18) 22 dX9_orders_18 (by decide) ?_
    refine g_iret (pc := 22) dX9_orders_22 rfl ?_
    exact ⟨congrArg (fun t => some (Value.int t)) (by first | exact (if_pos (b01_ne0.mp h10)).symm | exact (if_neg (b01_eq0.mp h10)).symm), rfl, rfl⟩
theorem c_X9_hasFigures {x : Int64} {y : Int32} {v : Mm} {L : Lm}  : Fn yX9_hasFigures cX9_hasFigures 3 (some .boolean) 2 [.long x, .int y] v L (some (.int (b01 (0 ≤ x ∧ x < tensF y)))) v L := by
  refine Fq.of (plainFor_of_name (by decide)) [some (.long x), none, some (.int y)] rfl (Nat.le_of_ble_eq_true rfl) ?_
  refine g_lload0 (pc := 0) dX9_hasFigures_0 ?_
  refine g_lconst (pc := 1) (0) dX9_hasFigures_1 (by decide) ?_
  refine g_lcmp (pc := 2) dX9_hasFigures_2 ?_
  refine g_if_lt (pc := 3) 19 dX9_hasFigures_3 (by decide) (fun h3 => ?_) (fun h3 => ?_)
  · skip
    refine g_iconst (pc := 19) (0) dX9_hasFigures_19 (by decide) ?_
    refine g_zret (pc := 20) dX9_hasFigures_20 rfl (by first | exact Or.inl rfl | exact Or.inr rfl | assumption) ?_
    first | exact ⟨by rw [b01_f (fun h => absurd (lgc_lt.mp h3) (Int64.not_lt.mpr h.1))], rfl, rfl⟩ | exact ⟨by rw [b01_f (fun h => absurd h.2 (Int64.not_lt.mpr (lgc_ge.mp h12)))], rfl, rfl⟩ | exact ⟨by rw [b01_t ⟨Int64.not_lt.mp (fun q => h3 (lgc_lt.mpr q)), Int64.not_le.mp (fun q => h12 (lgc_ge.mpr q))⟩], rfl, rfl⟩
  · skip
    refine g_lload0 (pc := 6) dX9_hasFigures_6 ?_
    refine g_iload2 (pc := 7) dX9_hasFigures_7 ?_
    refine g_fS1 (pc := 8) (c_X9_tens) dX9_hasFigures_8 cw_RX9_261 (by decide) (Nat.le_of_ble_eq_true rfl) ?_
    refine g_lcmp (pc := 11) dX9_hasFigures_11 ?_
    refine g_if_ge (pc := 12) 19 dX9_hasFigures_12 (by decide) (fun h12 => ?_) (fun h12 => ?_)
    · skip
      refine g_iconst (pc := 19) (0) dX9_hasFigures_19 (by decide) ?_
      refine g_zret (pc := 20) dX9_hasFigures_20 rfl (by first | exact Or.inl rfl | exact Or.inr rfl | assumption) ?_
      first | exact ⟨by rw [b01_f (fun h => absurd (lgc_lt.mp h3) (Int64.not_lt.mpr h.1))], rfl, rfl⟩ | exact ⟨by rw [b01_f (fun h => absurd h.2 (Int64.not_lt.mpr (lgc_ge.mp h12)))], rfl, rfl⟩ | exact ⟨by rw [b01_t ⟨Int64.not_lt.mp (fun q => h3 (lgc_lt.mpr q)), Int64.not_le.mp (fun q => h12 (lgc_ge.mpr q))⟩], rfl, rfl⟩
    · skip
      refine g_iconst (pc := 15) (1) dX9_hasFigures_15 (by decide) ?_
      refine g_goto (pc := 16) 20 dX9_hasFigures_16 (by decide) ?_
      refine g_zret (pc := 20) dX9_hasFigures_20 rfl (by first | exact Or.inl rfl | exact Or.inr rfl | assumption) ?_
      first | exact ⟨by rw [b01_f (fun h => absurd (lgc_lt.mp h3) (Int64.not_lt.mpr h.1))], rfl, rfl⟩ | exact ⟨by rw [b01_f (fun h => absurd h.2 (Int64.not_lt.mpr (lgc_ge.mp h12)))], rfl, rfl⟩ | exact ⟨by rw [b01_t ⟨Int64.not_lt.mp (fun q => h3 (lgc_lt.mpr q)), Int64.not_le.mp (fun q => h12 (lgc_ge.mpr q))⟩], rfl, rfl⟩
theorem c_X9_figure {x : Int64} {y : Int32} {v : Mm} {L : Lm}  : Fn yX9_figure cX9_figure 3 (some .int) 2 [.long x, .int y] v L (some (.int (figF x y))) v L := by
  refine Fq.of (plainFor_of_name (by decide)) [some (.long x), none, some (.int y)] rfl (Nat.le_of_ble_eq_true rfl) ?_
  refine g_lload0 (pc := 0) dX9_figure_0 ?_
  refine g_iload2 (pc := 1) dX9_figure_1 ?_
  refine g_fS1 (pc := 2) (c_X9_tens) dX9_figure_2 cw_RX9_261 (by decide) (Nat.le_of_ble_eq_true rfl) ?_
  refine g_ldiv (pc := 5) dX9_figure_5 (tensF_ne0 _) ?_
  refine g_ldc2 (pc := 6) _ dX9_figure_6 kc_RX9_316 ?_
  refine g_lrem (pc := 9) dX9_figure_9 (by decide) ?_
  refine g_l2i (pc := 10) dX9_figure_10 ?_
  refine g_iret (pc := 11) dX9_figure_11 rfl ?_
  exact ⟨rfl, rfl, rfl⟩
theorem c_X9_neighbour {x y : Int32} {v : Mm} {L : Lm}  : Fn yX9_neighbour cX9_neighbour 4 (some .int) 1 [.int x, .int y] v L (some (.int (nbF x y))) v L := by
  refine Fq.of (plainFor_of_name (by decide)) [some (.int x), some (.int y), none, none] rfl (Nat.le_of_ble_eq_true rfl) ?_
  refine g_iload0 (pc := 0) dX9_neighbour_0 ?_
  refine g_fS1 (pc := 1) (c_X9_isDot) dX9_neighbour_1 cw_RX9_139 (by decide) (Nat.le_of_ble_eq_true rfl) ?_
  refine g_if_eq (pc := 4) 14 dX9_neighbour_4 (by decide) (fun h4 => ?_) (fun h4 => ?_)
  · skip
    refine g_bipush (pc := 14) (-9) dX9_neighbour_14 (by decide) ?_
    refine g_iret (pc := 16) dX9_neighbour_16 rfl ?_
    first | exact ⟨congrArg (fun t => some (Value.int t)) (if_neg (fun h => b01_eq0.mp h4 h.1)).symm, rfl, rfl⟩ | exact ⟨congrArg (fun t => some (Value.int t)) (if_neg (fun h => b01_eq0.mp h11 h.2)).symm, rfl, rfl⟩
  · skip
    refine g_iload1 (pc := 7) dX9_neighbour_7 ?_
    refine g_fS1 (pc := 8) (c_X9_isDirection) dX9_neighbour_8 cw_RX9_145 (by decide) (Nat.le_of_ble_eq_true rfl) ?_
    refine g_if_ne (pc := 11) 17 dX9_neighbour_11 (by decide) (fun h11 => ?_) (fun h11 => ?_)
    · skip
      refine g_iload0 (pc := 17) dX9_neighbour_17 ?_
      refine g_iconst (pc := 18) (5) dX9_neighbour_18 (by decide) ?_
      refine g_irem (pc := 19) dX9_neighbour_19 (by decide) ?_
      refine g_gets (pc := 20) (j := 0) dX9_neighbour_20 (by decide) fl_RX9_318 ?_
      refine g_iload1 (pc := 23) dX9_neighbour_23 ?_
      refine g_sld (pc := 24) (j := 0) dX9_neighbour_24 (by decide) (vin_lt (n := 8) (by decide) (b01_ne0.mp h11)) ?_
      refine g_iadd (pc := 25) dX9_neighbour_25 ?_
      refine g_istore2 (pc := 26) dX9_neighbour_26 (by decide) rfl ?_
      refine g_iload0 (pc := 27) dX9_neighbour_27 ?_
      refine g_iconst (pc := 28) (5) dX9_neighbour_28 (by decide) ?_
      refine g_idiv (pc := 29) dX9_neighbour_29 (by decide) ?_
      refine g_gets (pc := 30) (j := 1) dX9_neighbour_30 (by decide) fl_RX9_321 ?_
      refine g_iload1 (pc := 33) dX9_neighbour_33 ?_
      refine g_sld (pc := 34) (j := 1) dX9_neighbour_34 (by decide) (vin_lt (n := 8) (by decide) (b01_ne0.mp h11)) ?_
      refine g_iadd (pc := 35) dX9_neighbour_35 ?_
      refine g_istore3 (pc := 36) dX9_neighbour_36 (by decide) rfl ?_
      refine g_iload2 (pc := 37) dX9_neighbour_37 ?_
      refine g_iconst (pc := 38) (4) dX9_neighbour_38 (by decide) ?_
      refine g_fS2 (pc := 39) (c_X9_isWithin) dX9_neighbour_39 cw_RX9_68 (by decide) (Nat.le_of_ble_eq_true rfl) ?_
      refine g_if_eq (pc := 42) 61 dX9_neighbour_42 (by decide) (fun h42 => ?_) (fun h42 => ?_)
      · skip
        refine g_bipush (pc := 61) (-9) dX9_neighbour_61 (by decide) ?_
        refine g_iret (pc := 63) dX9_neighbour_63 rfl ?_
        refine ⟨congrArg (fun t => some (Value.int t)) ?_, rfl, rfl⟩
        unfold nbF
        rw [if_pos ⟨b01_ne0.mp h4, b01_ne0.mp h11⟩]
        first | exact (if_pos ⟨b01_ne0.mp h42, b01_ne0.mp h50⟩).symm | exact (if_neg (fun h => b01_eq0.mp h42 h.1)).symm | exact (if_neg (fun h => b01_eq0.mp h50 h.2)).symm
      · skip
        refine g_iload3 (pc := 45) dX9_neighbour_45 ?_
        refine g_iconst (pc := 46) (4) dX9_neighbour_46 (by decide) ?_
        refine g_fS2 (pc := 47) (c_X9_isWithin) dX9_neighbour_47 cw_RX9_68 (by decide) (Nat.le_of_ble_eq_true rfl) ?_
        refine g_if_eq (pc := 50) 61 dX9_neighbour_50 (by decide) (fun h50 => ?_) (fun h50 => ?_)
        · skip
          refine g_bipush (pc := 61) (-9) dX9_neighbour_61 (by decide) ?_
          refine g_iret (pc := 63) dX9_neighbour_63 rfl ?_
          refine ⟨congrArg (fun t => some (Value.int t)) ?_, rfl, rfl⟩
          unfold nbF
          rw [if_pos ⟨b01_ne0.mp h4, b01_ne0.mp h11⟩]
          first | exact (if_pos ⟨b01_ne0.mp h42, b01_ne0.mp h50⟩).symm | exact (if_neg (fun h => b01_eq0.mp h42 h.1)).symm | exact (if_neg (fun h => b01_eq0.mp h50 h.2)).symm
        · skip
          refine g_iconst (pc := 53) (5) dX9_neighbour_53 (by decide) ?_
          refine g_iload3 (pc := 54) dX9_neighbour_54 ?_
          refine g_imul (pc := 55) dX9_neighbour_55 ?_
          refine g_iload2 (pc := 56) dX9_neighbour_56 ?_
          refine g_iadd (pc := 57) dX9_neighbour_57 ?_
          refine g_goto (pc := 58) 63 dX9_neighbour_58 (by decide) ?_
          refine g_iret (pc := 63) dX9_neighbour_63 rfl ?_
          refine ⟨congrArg (fun t => some (Value.int t)) ?_, rfl, rfl⟩
          unfold nbF
          rw [if_pos ⟨b01_ne0.mp h4, b01_ne0.mp h11⟩]
          first | exact (if_pos ⟨b01_ne0.mp h42, b01_ne0.mp h50⟩).symm | exact (if_neg (fun h => b01_eq0.mp h42 h.1)).symm | exact (if_neg (fun h => b01_eq0.mp h50 h.2)).symm
    · skip
      refine g_bipush (pc := 14) (-9) dX9_neighbour_14 (by decide) ?_
      refine g_iret (pc := 16) dX9_neighbour_16 rfl ?_
      first | exact ⟨congrArg (fun t => some (Value.int t)) (if_neg (fun h => b01_eq0.mp h4 h.1)).symm, rfl, rfl⟩ | exact ⟨congrArg (fun t => some (Value.int t)) (if_neg (fun h => b01_eq0.mp h11 h.2)).symm, rfl, rfl⟩
theorem c_X2_across {k : Nat} {x : Int32} {v : Mm} {L : Lm} (hk : kd k = 2) : Fn yX2_across cX2_across 3 (some .int) 1 [.ref k, .int x] v L (some (.int (acF (v k 1) (v k 2) (v k 3) x))) v L := by
  refine Fq.of (plainFor_of_name (by decide)) [some (.ref k), some (.int x), none] rfl (Nat.le_of_ble_eq_true rfl) ?_
  refine g_iload1 (pc := 0) dX2_across_0 ?_
  refine g_fN1 (pc := 1) (c_X9_isDirection) dX2_across_1 cw_RX2_34 (by decide) (Nat.le_of_ble_eq_true rfl) ?_
  refine g_if_ne (pc := 4) 9 dX2_across_4 (by decide) (fun h4 => ?_) (fun h4 => ?_)
  · skip
    refine g_getsN (pc := 9) (j := 0) dX2_across_9 (by decide) fl_RX2_38 ?_
    refine g_iload1 (pc := 12) dX2_across_12 ?_
    refine g_sld (pc := 13) (j := 0) dX2_across_13 (by decide) (vin_lt (n := 8) (by decide) (b01_ne0.mp h4)) ?_
    first | refine g_aload0 (pc := 14) dX2_across_14 ?_ | refine g_aloadN0 (pc := 14) dX2_across_14 ?_
    refine g_getI (pc := 15) (j := 3) cf2 dX2_across_15 fl_RX2_21 (by decide) (by decide) (by first | rfl | assumption) ?_
    refine g_imul (pc := 18) dX2_across_18 ?_
    refine g_getsN (pc := 19) (j := 1) dX2_across_19 (by decide) fl_RX2_42 ?_
    refine g_iload1 (pc := 22) dX2_across_22 ?_
    refine g_sld (pc := 23) (j := 1) dX2_across_23 (by decide) (vin_lt (n := 8) (by decide) (b01_ne0.mp h4)) ?_
    first | refine g_aload0 (pc := 24) dX2_across_24 ?_ | refine g_aloadN0 (pc := 24) dX2_across_24 ?_
    refine g_getI (pc := 25) (j := 2) cf2 dX2_across_25 fl_RX2_18 (by decide) (by decide) (by first | rfl | assumption) ?_
    refine g_imul (pc := 28) dX2_across_28 ?_
    refine g_isub (pc := 29) dX2_across_29 ?_
    refine g_fS1 (pc := 30) (c_J9_abs_0f7a4) dX2_across_30 cw_RX2_45 (by decide) (Nat.le_of_ble_eq_true rfl) ?_
    refine g_istore2 (pc := 33) dX2_across_33 (by decide) rfl ?_
    first | refine g_aload0 (pc := 34) dX2_across_34 ?_ | refine g_aloadN0 (pc := 34) dX2_across_34 ?_
    refine g_getI (pc := 35) (j := 1) cf2 dX2_across_35 fl_RX2_15 (by decide) (by decide) (by first | rfl | assumption) ?_
    rcases tsw_0_2 (v k 1) with e38 | e38 | e38 | e38
    · skip
      refine g_tableIn (pc := 38) (off := 26) 64 dX2_across_38 (by rw [e38]; decide) (by rw [e38]; decide) (by rw [e38]; rfl) (by decide) ?_
      refine g_iload2 (pc := 64) dX2_across_64 ?_
      refine g_iret (pc := 65) dX2_across_65 rfl ?_
      refine ⟨congrArg (fun t => some (Value.int t)) ?_, rfl, rfl⟩
      unfold acF
      rw [if_pos (b01_ne0.mp h4)]
      first | (rw [if_pos e38]; rfl) | (rw [if_neg (by rw [e38]; decide), if_pos e38]; first | exact (if_pos h71).symm | exact (if_neg h71).symm) | (rw [if_neg (by rw [e38]; decide), if_neg (by rw [e38]; decide), if_pos e38]; rfl) | (rw [if_neg (fun q => by rw [q] at e38; revert e38; decide), if_neg (fun q => by rw [q] at e38; revert e38; decide), if_neg (fun q => by rw [q] at e38; revert e38; decide)]; rfl)
    · skip
      refine g_tableIn (pc := 38) (off := 28) 66 dX2_across_38 (by rw [e38]; decide) (by rw [e38]; decide) (by rw [e38]; rfl) (by decide) ?_
      refine g_getsN (pc := 66) (j := 1) dX2_across_66 (by decide) fl_RX2_42 ?_
      refine g_iload1 (pc := 69) dX2_across_69 ?_
      refine g_sld (pc := 70) (j := 1) dX2_across_70 (by decide) (vin_lt (n := 8) (by decide) (b01_ne0.mp h4)) ?_
      refine g_if_ge (pc := 71) 94 dX2_across_71 (by decide) (fun h71 => ?_) (fun h71 => ?_)
      · skip
        refine g_iconst (pc := 94) (1) dX2_across_94 (by decide) ?_
        refine g_iret (pc := 95) dX2_across_95 rfl ?_
        refine ⟨congrArg (fun t => some (Value.int t)) ?_, rfl, rfl⟩
        unfold acF
        rw [if_pos (b01_ne0.mp h4)]
        first | (rw [if_pos e38]; rfl) | (rw [if_neg (by rw [e38]; decide), if_pos e38]; first | exact (if_pos h71).symm | exact (if_neg h71).symm) | (rw [if_neg (by rw [e38]; decide), if_neg (by rw [e38]; decide), if_pos e38]; rfl) | (rw [if_neg (fun q => by rw [q] at e38; revert e38; decide), if_neg (fun q => by rw [q] at e38; revert e38; decide), if_neg (fun q => by rw [q] at e38; revert e38; decide)]; rfl)
      · skip
        refine g_iconst (pc := 74) (1) dX2_across_74 (by decide) ?_
        first | refine g_aload0 (pc := 75) dX2_across_75 ?_ | refine g_aloadN0 (pc := 75) dX2_across_75 ?_
        refine g_getI (pc := 76) (j := 2) cf2 dX2_across_76 fl_RX2_18 (by decide) (by decide) (by first | rfl | assumption) ?_
        refine g_fS1 (pc := 79) (c_J9_abs_0f7a4) dX2_across_79 cw_RX2_45 (by decide) (Nat.le_of_ble_eq_true rfl) ?_
        refine g_iadd (pc := 82) dX2_across_82 ?_
        first | refine g_aload0 (pc := 83) dX2_across_83 ?_ | refine g_aloadN0 (pc := 83) dX2_across_83 ?_
        refine g_getI (pc := 84) (j := 3) cf2 dX2_across_84 fl_RX2_21 (by decide) (by decide) (by first | rfl | assumption) ?_
        refine g_fS1 (pc := 87) (c_J9_abs_0f7a4) dX2_across_87 cw_RX2_45 (by decide) (Nat.le_of_ble_eq_true rfl) ?_
        refine g_iadd (pc := 90) dX2_across_90 ?_
        refine g_goto (pc := 91) 95 dX2_across_91 (by decide) ?_
        refine g_iret (pc := 95) dX2_across_95 rfl ?_
        refine ⟨congrArg (fun t => some (Value.int t)) ?_, rfl, rfl⟩
        unfold acF
        rw [if_pos (b01_ne0.mp h4)]
        first | (rw [if_pos e38]; rfl) | (rw [if_neg (by rw [e38]; decide), if_pos e38]; first | exact (if_pos h71).symm | exact (if_neg h71).symm) | (rw [if_neg (by rw [e38]; decide), if_neg (by rw [e38]; decide), if_pos e38]; rfl) | (rw [if_neg (fun q => by rw [q] at e38; revert e38; decide), if_neg (fun q => by rw [q] at e38; revert e38; decide), if_neg (fun q => by rw [q] at e38; revert e38; decide)]; rfl)
    · skip
      refine g_tableIn (pc := 38) (off := 58) 96 dX2_across_38 (by rw [e38]; decide) (by rw [e38]; decide) (by rw [e38]; rfl) (by decide) ?_
      refine g_iconst (pc := 96) (1) dX2_across_96 (by decide) ?_
      refine g_iload2 (pc := 97) dX2_across_97 ?_
      refine g_iadd (pc := 98) dX2_across_98 ?_
      refine g_iret (pc := 99) dX2_across_99 rfl ?_
      refine ⟨congrArg (fun t => some (Value.int t)) ?_, rfl, rfl⟩
      unfold acF
      rw [if_pos (b01_ne0.mp h4)]
      first | (rw [if_pos e38]; rfl) | (rw [if_neg (by rw [e38]; decide), if_pos e38]; first | exact (if_pos h71).symm | exact (if_neg h71).symm) | (rw [if_neg (by rw [e38]; decide), if_neg (by rw [e38]; decide), if_pos e38]; rfl) | (rw [if_neg (fun q => by rw [q] at e38; revert e38; decide), if_neg (fun q => by rw [q] at e38; revert e38; decide), if_neg (fun q => by rw [q] at e38; revert e38; decide)]; rfl)
    · skip
      refine g_tableOut (pc := 38) 100 dX2_across_38 e38 (by decide) ?_
      refine g_iconst (pc := 100) (2) dX2_across_100 (by decide) ?_
      refine g_iconst (pc := 101) (1) dX2_across_101 (by decide) ?_
      refine g_iload2 (pc := 102) dX2_across_102 ?_
      refine g_iadd (pc := 103) dX2_across_103 ?_
      refine g_fS2 (pc := 104) (c_J9_min_7cf53) dX2_across_104 cw_RX2_51 (by decide) (Nat.le_of_ble_eq_true rfl) ?_
      refine g_iret (pc := 107) dX2_across_107 rfl ?_
      refine ⟨congrArg (fun t => some (Value.int t)) ?_, rfl, rfl⟩
      unfold acF
      rw [if_pos (b01_ne0.mp h4)]
      first | (rw [if_pos e38]; rfl) | (rw [if_neg (by rw [e38]; decide), if_pos e38]; first | exact (if_pos h71).symm | exact (if_neg h71).symm) | (rw [if_neg (by rw [e38]; decide), if_neg (by rw [e38]; decide), if_pos e38]; rfl) | (rw [if_neg (fun q => by rw [q] at e38; revert e38; decide), if_neg (fun q => by rw [q] at e38; revert e38; decide), if_neg (fun q => by rw [q] at e38; revert e38; decide)]; rfl)
  · skip
    refine g_iconst (pc := 7) (0) dX2_across_7 (by decide) ?_
    refine g_iret (pc := 8) dX2_across_8 rfl ?_
    exact ⟨congrArg (fun t => some (Value.int t)) (if_neg (b01_eq0.mp h4)).symm, rfl, rfl⟩
theorem c_X2_lays {k : Nat} {x y : Int32} {v : Mm} {L : Lm} (hk : kd k = 2) : Fn yX2_lays cX2_lays 3 (some .int) 2 [.ref k, .int x, .int y] v L (some (.int (lyF (v k 6) (v k 1) (v k 2) (v k 3) x y))) v L := by
  refine Fq.of (plainFor_of_name (by decide)) [some (.ref k), some (.int x), some (.int y)] rfl (Nat.le_of_ble_eq_true rfl) ?_
  first | refine g_aload0 (pc := 0) dX2_lays_0 ?_ | refine g_aloadN0 (pc := 0) dX2_lays_0 ?_
  refine g_getI (pc := 1) (j := 6) cf2 dX2_lays_1 fl_RX2_30 (by decide) (by decide) (by first | rfl | assumption) ?_
  refine g_if_eq (pc := 4) 19 dX2_lays_4 (by decide) (fun h4 => ?_) (fun h4 => ?_)
  · skip
    refine g_iconst (pc := 19) (0) dX2_lays_19 (by decide) ?_
    refine g_iret (pc := 20) dX2_lays_20 rfl ?_
    first | exact ⟨congrArg (fun t => some (Value.int t)) (if_pos h4).symm, rfl, rfl⟩ | exact ⟨congrArg (fun t => some (Value.int t)) (if_neg h4).symm, rfl, rfl⟩
  · skip
    first | refine g_aload0 (pc := 7) dX2_lays_7 ?_ | refine g_aloadN0 (pc := 7) dX2_lays_7 ?_
    refine g_iload1 (pc := 8) dX2_lays_8 ?_
    refine g_fV1 (pc := 9) (c_X2_across hk) cf2 (by first | rfl | assumption) dX2_lays_9 cw_RX2_55 (by decide) (Nat.le_of_ble_eq_true rfl) ?_
    refine g_iload2 (pc := 12) dX2_lays_12 ?_
    refine g_fS2 (pc := 13) (c_J9_min_7cf53) dX2_lays_13 cw_RX2_51 (by decide) (Nat.le_of_ble_eq_true rfl) ?_
    refine g_goto (pc := 16) 20 dX2_lays_16 (by decide) ?_
    refine g_iret (pc := 20) dX2_lays_20 rfl ?_
    first | exact ⟨congrArg (fun t => some (Value.int t)) (if_pos h4).symm, rfl, rfl⟩ | exact ⟨congrArg (fun t => some (Value.int t)) (if_neg h4).symm, rfl, rfl⟩
end
