section
-- ===== PART A: goes FIRST, ahead of the names: the tables' words, and 'selects' of the private methods out of them =====
/-- a private method of a class that the tables say can be made, by its rows of tables_1 -/
def lw_okq (q : MethodName × Nat) : Prop := (q.1.cls ≠ "java/lang/invoke/MethodHandle" ∧ q.1.cls ≠ "java/lang/invoke/VarHandle") ∧ Cond.instantiable q.1.cls q.2 ∈ tables_1 ∧ Cond.privateMethod q.1 ∈ tables_1 ∧ Cond.instanceMethod q.1 ∈ tables_1
theorem lw_p0 : lw_okq (⟨"FingerOverlay", "addNode", "(I)LFingerOverlay$Node;"⟩, 5) := ⟨⟨by decide +kernel, by decide +kernel⟩, List.mem_of_getElem? (i := 8) (by decide +kernel), List.mem_of_getElem? (i := 100) (by decide +kernel), List.mem_of_getElem? (i := 101) (by decide +kernel)⟩
theorem lw_p1 : lw_okq (⟨"FingerOverlay", "nodeWith", "(I)LFingerOverlay$Node;"⟩, 5) := ⟨⟨by decide +kernel, by decide +kernel⟩, List.mem_of_getElem? (i := 8) (by decide +kernel), List.mem_of_getElem? (i := 151) (by decide +kernel), List.mem_of_getElem? (i := 152) (by decide +kernel)⟩
theorem lw_p2 : lw_okq (⟨"FingerOverlay", "memberWith", "(I)LFingerOverlay$Node;"⟩, 5) := ⟨⟨by decide +kernel, by decide +kernel⟩, List.mem_of_getElem? (i := 8) (by decide +kernel), List.mem_of_getElem? (i := 155) (by decide +kernel), List.mem_of_getElem? (i := 156) (by decide +kernel)⟩
theorem lw_p3 : lw_okq (⟨"FingerOverlay", "sendFind", "(IIII)LFingerOverlay$Message;"⟩, 5) := ⟨⟨by decide +kernel, by decide +kernel⟩, List.mem_of_getElem? (i := 8) (by decide +kernel), List.mem_of_getElem? (i := 167) (by decide +kernel), List.mem_of_getElem? (i := 168) (by decide +kernel)⟩
theorem lw_p4 : lw_okq (⟨"FingerOverlay", "takeKey", "(I)Z"⟩, 5) := ⟨⟨by decide +kernel, by decide +kernel⟩, List.mem_of_getElem? (i := 8) (by decide +kernel), List.mem_of_getElem? (i := 193) (by decide +kernel), List.mem_of_getElem? (i := 194) (by decide +kernel)⟩
theorem lw_p5 : lw_okq (⟨"FingerOverlay", "slotOf", "(I)I"⟩, 5) := ⟨⟨by decide +kernel, by decide +kernel⟩, List.mem_of_getElem? (i := 8) (by decide +kernel), List.mem_of_getElem? (i := 197) (by decide +kernel), List.mem_of_getElem? (i := 198) (by decide +kernel)⟩
theorem lw_p6 : lw_okq (⟨"FingerOverlay", "arrive", "(I)I"⟩, 5) := ⟨⟨by decide +kernel, by decide +kernel⟩, List.mem_of_getElem? (i := 8) (by decide +kernel), List.mem_of_getElem? (i := 209) (by decide +kernel), List.mem_of_getElem? (i := 210) (by decide +kernel)⟩
theorem lw_p7 : lw_okq (⟨"FingerOverlay", "findArrives", "(LFingerOverlay$Node;LFingerOverlay$Message;)V"⟩, 5) := ⟨⟨by decide +kernel, by decide +kernel⟩, List.mem_of_getElem? (i := 8) (by decide +kernel), List.mem_of_getElem? (i := 221) (by decide +kernel), List.mem_of_getElem? (i := 222) (by decide +kernel)⟩
theorem lw_p8 : lw_okq (⟨"FingerOverlay", "passOn", "(LFingerOverlay$Node;LFingerOverlay$Message;)V"⟩, 5) := ⟨⟨by decide +kernel, by decide +kernel⟩, List.mem_of_getElem? (i := 8) (by decide +kernel), List.mem_of_getElem? (i := 231) (by decide +kernel), List.mem_of_getElem? (i := 232) (by decide +kernel)⟩
theorem lw_p9 : lw_okq (⟨"FingerOverlay", "foundArrives", "(LFingerOverlay$Node;LFingerOverlay$Message;)V"⟩, 5) := ⟨⟨by decide +kernel, by decide +kernel⟩, List.mem_of_getElem? (i := 8) (by decide +kernel), List.mem_of_getElem? (i := 241) (by decide +kernel), List.mem_of_getElem? (i := 242) (by decide +kernel)⟩
theorem lw_p10 : lw_okq (⟨"FingerOverlay", "storeArrives", "(LFingerOverlay$Node;LFingerOverlay$Message;)V"⟩, 5) := ⟨⟨by decide +kernel, by decide +kernel⟩, List.mem_of_getElem? (i := 8) (by decide +kernel), List.mem_of_getElem? (i := 245) (by decide +kernel), List.mem_of_getElem? (i := 246) (by decide +kernel)⟩
theorem lw_p11 : lw_okq (⟨"FingerOverlay", "fetchArrives", "(LFingerOverlay$Node;LFingerOverlay$Message;)V"⟩, 5) := ⟨⟨by decide +kernel, by decide +kernel⟩, List.mem_of_getElem? (i := 8) (by decide +kernel), List.mem_of_getElem? (i := 249) (by decide +kernel), List.mem_of_getElem? (i := 250) (by decide +kernel)⟩
theorem lw_p12 : lw_okq (⟨"FingerOverlay", "valueAt", "(LFingerOverlay$Node;I)J"⟩, 5) := ⟨⟨by decide +kernel, by decide +kernel⟩, List.mem_of_getElem? (i := 8) (by decide +kernel), List.mem_of_getElem? (i := 253) (by decide +kernel), List.mem_of_getElem? (i := 254) (by decide +kernel)⟩
theorem lw_p13 : lw_okq (⟨"FingerOverlay", "askArrives", "(LFingerOverlay$Node;LFingerOverlay$Message;)V"⟩, 5) := ⟨⟨by decide +kernel, by decide +kernel⟩, List.mem_of_getElem? (i := 8) (by decide +kernel), List.mem_of_getElem? (i := 258) (by decide +kernel), List.mem_of_getElem? (i := 259) (by decide +kernel)⟩
theorem lw_p14 : lw_okq (⟨"FingerOverlay", "tellArrives", "(LFingerOverlay$Node;LFingerOverlay$Message;)V"⟩, 5) := ⟨⟨by decide +kernel, by decide +kernel⟩, List.mem_of_getElem? (i := 8) (by decide +kernel), List.mem_of_getElem? (i := 262) (by decide +kernel), List.mem_of_getElem? (i := 263) (by decide +kernel)⟩
theorem lw_p15 : lw_okq (⟨"FingerOverlay", "notifyArrives", "(LFingerOverlay$Node;LFingerOverlay$Message;)V"⟩, 5) := ⟨⟨by decide +kernel, by decide +kernel⟩, List.mem_of_getElem? (i := 8) (by decide +kernel), List.mem_of_getElem? (i := 266) (by decide +kernel), List.mem_of_getElem? (i := 267) (by decide +kernel)⟩
def lw_privs_1 : List (MethodName × Nat) := [(⟨"FingerOverlay", "addNode", "(I)LFingerOverlay$Node;"⟩, 5), (⟨"FingerOverlay", "nodeWith", "(I)LFingerOverlay$Node;"⟩, 5), (⟨"FingerOverlay", "memberWith", "(I)LFingerOverlay$Node;"⟩, 5), (⟨"FingerOverlay", "sendFind", "(IIII)LFingerOverlay$Message;"⟩, 5), (⟨"FingerOverlay", "takeKey", "(I)Z"⟩, 5), (⟨"FingerOverlay", "slotOf", "(I)I"⟩, 5), (⟨"FingerOverlay", "arrive", "(I)I"⟩, 5), (⟨"FingerOverlay", "findArrives", "(LFingerOverlay$Node;LFingerOverlay$Message;)V"⟩, 5), (⟨"FingerOverlay", "passOn", "(LFingerOverlay$Node;LFingerOverlay$Message;)V"⟩, 5), (⟨"FingerOverlay", "foundArrives", "(LFingerOverlay$Node;LFingerOverlay$Message;)V"⟩, 5), (⟨"FingerOverlay", "storeArrives", "(LFingerOverlay$Node;LFingerOverlay$Message;)V"⟩, 5), (⟨"FingerOverlay", "fetchArrives", "(LFingerOverlay$Node;LFingerOverlay$Message;)V"⟩, 5), (⟨"FingerOverlay", "valueAt", "(LFingerOverlay$Node;I)J"⟩, 5), (⟨"FingerOverlay", "askArrives", "(LFingerOverlay$Node;LFingerOverlay$Message;)V"⟩, 5), (⟨"FingerOverlay", "tellArrives", "(LFingerOverlay$Node;LFingerOverlay$Message;)V"⟩, 5), (⟨"FingerOverlay", "notifyArrives", "(LFingerOverlay$Node;LFingerOverlay$Message;)V"⟩, 5)]
theorem lw_r1 : ∀ q ∈ lw_privs_1, lw_okq q := List.forall_mem_cons.mpr ⟨lw_p0, List.forall_mem_cons.mpr ⟨lw_p1, List.forall_mem_cons.mpr ⟨lw_p2, List.forall_mem_cons.mpr ⟨lw_p3, List.forall_mem_cons.mpr ⟨lw_p4, List.forall_mem_cons.mpr ⟨lw_p5, List.forall_mem_cons.mpr ⟨lw_p6, List.forall_mem_cons.mpr ⟨lw_p7, List.forall_mem_cons.mpr ⟨lw_p8, List.forall_mem_cons.mpr ⟨lw_p9, List.forall_mem_cons.mpr ⟨lw_p10, List.forall_mem_cons.mpr ⟨lw_p11, List.forall_mem_cons.mpr ⟨lw_p12, List.forall_mem_cons.mpr ⟨lw_p13, List.forall_mem_cons.mpr ⟨lw_p14, List.forall_mem_cons.mpr ⟨lw_p15, fun _ h => absurd h List.not_mem_nil⟩⟩⟩⟩⟩⟩⟩⟩⟩⟩⟩⟩⟩⟩⟩⟩
theorem lw_p16 : lw_okq (⟨"FingerOverlay", "handOver", "(LFingerOverlay$Node;LFingerOverlay$Node;)V"⟩, 5) := ⟨⟨by decide +kernel, by decide +kernel⟩, List.mem_of_getElem? (i := 8) (by decide +kernel), List.mem_of_getElem? (i := 270) (by decide +kernel), List.mem_of_getElem? (i := 271) (by decide +kernel)⟩
theorem lw_p17 : lw_okq (⟨"FingerOverlay", "firstUpFrom", "(I)I"⟩, 5) := ⟨⟨by decide +kernel, by decide +kernel⟩, List.mem_of_getElem? (i := 8) (by decide +kernel), List.mem_of_getElem? (i := 320) (by decide +kernel), List.mem_of_getElem? (i := 321) (by decide +kernel)⟩
theorem lw_p18 : lw_okq (⟨"FingerOverlay", "wrongPointers", "(LFingerOverlay$Node;)I"⟩, 5) := ⟨⟨by decide +kernel, by decide +kernel⟩, List.mem_of_getElem? (i := 8) (by decide +kernel), List.mem_of_getElem? (i := 328) (by decide +kernel), List.mem_of_getElem? (i := 329) (by decide +kernel)⟩
theorem lw_p19 : lw_okq (⟨"FingerOverlay", "firstDownFrom", "(I)I"⟩, 5) := ⟨⟨by decide +kernel, by decide +kernel⟩, List.mem_of_getElem? (i := 8) (by decide +kernel), List.mem_of_getElem? (i := 332) (by decide +kernel), List.mem_of_getElem? (i := 333) (by decide +kernel)⟩
theorem lw_p20 : lw_okq (⟨"FingerOverlayModel", "isMember", "(I)Z"⟩, 22) := ⟨⟨by decide +kernel, by decide +kernel⟩, List.mem_of_getElem? (i := 340) (by decide +kernel), List.mem_of_getElem? (i := 425) (by decide +kernel), List.mem_of_getElem? (i := 426) (by decide +kernel)⟩
theorem lw_p21 : lw_okq (⟨"FingerOverlayModel", "ask", "(IIIIJ)V"⟩, 22) := ⟨⟨by decide +kernel, by decide +kernel⟩, List.mem_of_getElem? (i := 340) (by decide +kernel), List.mem_of_getElem? (i := 429) (by decide +kernel), List.mem_of_getElem? (i := 430) (by decide +kernel)⟩
theorem lw_p22 : lw_okq (⟨"FingerOverlayModel", "post", "(IIII)V"⟩, 22) := ⟨⟨by decide +kernel, by decide +kernel⟩, List.mem_of_getElem? (i := 340) (by decide +kernel), List.mem_of_getElem? (i := 433) (by decide +kernel), List.mem_of_getElem? (i := 434) (by decide +kernel)⟩
theorem lw_p23 : lw_okq (⟨"FingerOverlayModel", "arrive", "(I)V"⟩, 22) := ⟨⟨by decide +kernel, by decide +kernel⟩, List.mem_of_getElem? (i := 340) (by decide +kernel), List.mem_of_getElem? (i := 457) (by decide +kernel), List.mem_of_getElem? (i := 458) (by decide +kernel)⟩
theorem lw_p24 : lw_okq (⟨"FingerOverlayModel", "copy", "(II)V"⟩, 22) := ⟨⟨by decide +kernel, by decide +kernel⟩, List.mem_of_getElem? (i := 340) (by decide +kernel), List.mem_of_getElem? (i := 461) (by decide +kernel), List.mem_of_getElem? (i := 462) (by decide +kernel)⟩
theorem lw_p25 : lw_okq (⟨"FingerOverlayModel", "find", "(I)V"⟩, 22) := ⟨⟨by decide +kernel, by decide +kernel⟩, List.mem_of_getElem? (i := 340) (by decide +kernel), List.mem_of_getElem? (i := 465) (by decide +kernel), List.mem_of_getElem? (i := 466) (by decide +kernel)⟩
theorem lw_p26 : lw_okq (⟨"FingerOverlayModel", "found", "(I)V"⟩, 22) := ⟨⟨by decide +kernel, by decide +kernel⟩, List.mem_of_getElem? (i := 340) (by decide +kernel), List.mem_of_getElem? (i := 475) (by decide +kernel), List.mem_of_getElem? (i := 476) (by decide +kernel)⟩
theorem lw_p27 : lw_okq (⟨"FingerOverlayModel", "keep", "(III)V"⟩, 22) := ⟨⟨by decide +kernel, by decide +kernel⟩, List.mem_of_getElem? (i := 340) (by decide +kernel), List.mem_of_getElem? (i := 479) (by decide +kernel), List.mem_of_getElem? (i := 480) (by decide +kernel)⟩
theorem lw_p28 : lw_okq (⟨"FingerOverlayModel", "entryAt", "(II)I"⟩, 22) := ⟨⟨by decide +kernel, by decide +kernel⟩, List.mem_of_getElem? (i := 340) (by decide +kernel), List.mem_of_getElem? (i := 483) (by decide +kernel), List.mem_of_getElem? (i := 484) (by decide +kernel)⟩
theorem lw_p29 : lw_okq (⟨"FingerOverlayModel", "fetch", "(I)V"⟩, 22) := ⟨⟨by decide +kernel, by decide +kernel⟩, List.mem_of_getElem? (i := 340) (by decide +kernel), List.mem_of_getElem? (i := 487) (by decide +kernel), List.mem_of_getElem? (i := 488) (by decide +kernel)⟩
theorem lw_p30 : lw_okq (⟨"FingerOverlayModel", "tell", "(I)V"⟩, 22) := ⟨⟨by decide +kernel, by decide +kernel⟩, List.mem_of_getElem? (i := 340) (by decide +kernel), List.mem_of_getElem? (i := 492) (by decide +kernel), List.mem_of_getElem? (i := 493) (by decide +kernel)⟩
theorem lw_p31 : lw_okq (⟨"FingerOverlayModel", "notified", "(I)V"⟩, 22) := ⟨⟨by decide +kernel, by decide +kernel⟩, List.mem_of_getElem? (i := 340) (by decide +kernel), List.mem_of_getElem? (i := 496) (by decide +kernel), List.mem_of_getElem? (i := 497) (by decide +kernel)⟩
def lw_privs_2 : List (MethodName × Nat) := [(⟨"FingerOverlay", "handOver", "(LFingerOverlay$Node;LFingerOverlay$Node;)V"⟩, 5), (⟨"FingerOverlay", "firstUpFrom", "(I)I"⟩, 5), (⟨"FingerOverlay", "wrongPointers", "(LFingerOverlay$Node;)I"⟩, 5), (⟨"FingerOverlay", "firstDownFrom", "(I)I"⟩, 5), (⟨"FingerOverlayModel", "isMember", "(I)Z"⟩, 22), (⟨"FingerOverlayModel", "ask", "(IIIIJ)V"⟩, 22), (⟨"FingerOverlayModel", "post", "(IIII)V"⟩, 22), (⟨"FingerOverlayModel", "arrive", "(I)V"⟩, 22), (⟨"FingerOverlayModel", "copy", "(II)V"⟩, 22), (⟨"FingerOverlayModel", "find", "(I)V"⟩, 22), (⟨"FingerOverlayModel", "found", "(I)V"⟩, 22), (⟨"FingerOverlayModel", "keep", "(III)V"⟩, 22), (⟨"FingerOverlayModel", "entryAt", "(II)I"⟩, 22), (⟨"FingerOverlayModel", "fetch", "(I)V"⟩, 22), (⟨"FingerOverlayModel", "tell", "(I)V"⟩, 22), (⟨"FingerOverlayModel", "notified", "(I)V"⟩, 22)]
theorem lw_r2 : ∀ q ∈ lw_privs_2, lw_okq q := List.forall_mem_cons.mpr ⟨lw_p16, List.forall_mem_cons.mpr ⟨lw_p17, List.forall_mem_cons.mpr ⟨lw_p18, List.forall_mem_cons.mpr ⟨lw_p19, List.forall_mem_cons.mpr ⟨lw_p20, List.forall_mem_cons.mpr ⟨lw_p21, List.forall_mem_cons.mpr ⟨lw_p22, List.forall_mem_cons.mpr ⟨lw_p23, List.forall_mem_cons.mpr ⟨lw_p24, List.forall_mem_cons.mpr ⟨lw_p25, List.forall_mem_cons.mpr ⟨lw_p26, List.forall_mem_cons.mpr ⟨lw_p27, List.forall_mem_cons.mpr ⟨lw_p28, List.forall_mem_cons.mpr ⟨lw_p29, List.forall_mem_cons.mpr ⟨lw_p30, List.forall_mem_cons.mpr ⟨lw_p31, fun _ h => absurd h List.not_mem_nil⟩⟩⟩⟩⟩⟩⟩⟩⟩⟩⟩⟩⟩⟩⟩⟩
theorem lw_p32 : lw_okq (⟨"FingerOverlayModel", "handOver", "(II)V"⟩, 22) := ⟨⟨by decide +kernel, by decide +kernel⟩, List.mem_of_getElem? (i := 340) (by decide +kernel), List.mem_of_getElem? (i := 500) (by decide +kernel), List.mem_of_getElem? (i := 501) (by decide +kernel)⟩
theorem lw_p33 : lw_okq (⟨"FingerOverlayModel", "dropEntry", "(I)V"⟩, 22) := ⟨⟨by decide +kernel, by decide +kernel⟩, List.mem_of_getElem? (i := 340) (by decide +kernel), List.mem_of_getElem? (i := 504) (by decide +kernel), List.mem_of_getElem? (i := 505) (by decide +kernel)⟩
theorem lw_p34 : lw_okq (⟨"FingerOverlayModel", "first", "(II)I"⟩, 22) := ⟨⟨by decide +kernel, by decide +kernel⟩, List.mem_of_getElem? (i := 340) (by decide +kernel), List.mem_of_getElem? (i := 552) (by decide +kernel), List.mem_of_getElem? (i := 553) (by decide +kernel)⟩
def lw_privs_3 : List (MethodName × Nat) := [(⟨"FingerOverlayModel", "handOver", "(II)V"⟩, 22), (⟨"FingerOverlayModel", "dropEntry", "(I)V"⟩, 22), (⟨"FingerOverlayModel", "first", "(II)I"⟩, 22)]
theorem lw_r3 : ∀ q ∈ lw_privs_3, lw_okq q := List.forall_mem_cons.mpr ⟨lw_p32, List.forall_mem_cons.mpr ⟨lw_p33, List.forall_mem_cons.mpr ⟨lw_p34, fun _ h => absurd h List.not_mem_nil⟩⟩⟩
def lw_privs : List (MethodName × Nat) := lw_privs_1 ++ (lw_privs_2 ++ (lw_privs_3))
def lw_tbl : List Cond := k2_sels lw_privs ++ tables_1
theorem lw_privs_ok : ∀ q ∈ lw_privs, lw_okq q := by
  show ∀ q ∈ lw_privs_1 ++ (lw_privs_2 ++ (lw_privs_3)), lw_okq q
  exact List.forall_mem_append.mpr ⟨lw_r1, List.forall_mem_append.mpr ⟨lw_r2, lw_r3⟩⟩
end
section
/-! Names: classes, fields, methods; the words of the tables that the methods need. Written by a program out of the claim. -/
def RX0 : String := "FingerOverlay$Message"
def TX0 : u_T := fun k => match k with
  | 0 => ("FingerOverlay$Message", "kind", "I", false)
  | 1 => ("FingerOverlay$Message", "to", "I", false)
  | 2 => ("FingerOverlay$Message", "asker", "I", false)
  | 3 => ("FingerOverlay$Message", "purpose", "I", false)
  | 4 => ("FingerOverlay$Message", "key", "I", false)
  | 5 => ("FingerOverlay$Message", "finger", "I", false)
  | 6 => ("FingerOverlay$Message", "member", "I", false)
  | 7 => ("FingerOverlay$Message", "hops", "I", false)
  | _ => ("FingerOverlay$Message", "value", "J", false)
def tyX0 : Nat → FieldType := fun k => match k with
  | 0 => .int
  | 1 => .int
  | 2 => .int
  | 3 => .int
  | 4 => .int
  | 5 => .int
  | 6 => .int
  | 7 => .int
  | _ => .long
theorem nmX0 : ∀ a, a < 9 → ∀ b, b < 9 → a ≠ b → (TX0 a).2.1 ≠ (TX0 b).2.1 := by decide +kernel
theorem tyX0_ok : ∀ k, k < 9 → parseFieldDescriptor (TX0 k).2.2.1 = some (tyX0 k) := by decide +kernel
def RX1 : String := "FingerOverlay$Node"
def TX1 : u_T := fun k => match k with
  | 0 => ("FingerOverlay$Node", "id", "I", true)
  | 1 => ("FingerOverlay$Node", "successor", "I", false)
  | 2 => ("FingerOverlay$Node", "predecessor", "I", false)
  | 3 => ("FingerOverlay$Node", "fingers", "[I", true)
  | 4 => ("FingerOverlay$Node", "values", "[J", true)
  | 5 => ("FingerOverlay$Node", "answer", "J", false)
  | _ => ("FingerOverlay$Node", "hops", "I", false)
def tyX1 : Nat → FieldType := fun k => match k with
  | 0 => .int
  | 1 => .int
  | 2 => .int
  | 3 => .array (.int)
  | 4 => .array (.long)
  | 5 => .long
  | _ => .int
theorem nmX1 : ∀ a, a < 7 → ∀ b, b < 7 → a ≠ b → (TX1 a).2.1 ≠ (TX1 b).2.1 := by decide +kernel
theorem tyX1_ok : ∀ k, k < 7 → parseFieldDescriptor (TX1 k).2.2.1 = some (tyX1 k) := by decide +kernel
def RX2 : String := "FingerOverlay$Row"
def TX2 : u_T := fun k => match k with
  | 0 => ("FingerOverlay$Row", "messages", "[LFingerOverlay$Message;", true)
  | _ => ("FingerOverlay$Row", "size", "I", false)
def tyX2 : Nat → FieldType := fun k => match k with
  | 0 => .array (.object "FingerOverlay$Message")
  | _ => .int
theorem nmX2 : ∀ a, a < 2 → ∀ b, b < 2 → a ≠ b → (TX2 a).2.1 ≠ (TX2 b).2.1 := by decide +kernel
theorem tyX2_ok : ∀ k, k < 2 → parseFieldDescriptor (TX2 k).2.2.1 = some (tyX2 k) := by decide +kernel
def RX3 : String := "FingerOverlay"
def TX3 : u_T := fun k => match k with
  | 0 => ("FingerOverlay", "nodes", "[LFingerOverlay$Node;", true)
  | 1 => ("FingerOverlay", "nodeCount", "I", false)
  | 2 => ("FingerOverlay", "keys", "[I", true)
  | 3 => ("FingerOverlay", "keyCount", "I", false)
  | _ => ("FingerOverlay", "row", "LFingerOverlay$Row;", true)
def tyX3 : Nat → FieldType := fun k => match k with
  | 0 => .array (.object "FingerOverlay$Node")
  | 1 => .int
  | 2 => .array (.int)
  | 3 => .int
  | _ => .object "FingerOverlay$Row"
theorem nmX3 : ∀ a, a < 5 → ∀ b, b < 5 → a ≠ b → (TX3 a).2.1 ≠ (TX3 b).2.1 := by decide +kernel
theorem tyX3_ok : ∀ k, k < 5 → parseFieldDescriptor (TX3 k).2.2.1 = some (tyX3 k) := by decide +kernel
def RX4 : String := "FingerOverlayModel"
def TX4 : u_T := fun k => match k with
  | 0 => ("FingerOverlayModel", "nodes", "I", false)
  | 1 => ("FingerOverlayModel", "rank", "[I", false)
  | 2 => ("FingerOverlayModel", "after", "[I", false)
  | 3 => ("FingerOverlayModel", "before", "[I", false)
  | 4 => ("FingerOverlayModel", "pointer", "[I", false)
  | 5 => ("FingerOverlayModel", "told", "[J", false)
  | 6 => ("FingerOverlayModel", "way", "[I", false)
  | 7 => ("FingerOverlayModel", "kept", "I", false)
  | 8 => ("FingerOverlayModel", "keptAt", "[I", false)
  | 9 => ("FingerOverlayModel", "keptKey", "[I", false)
  | 10 => ("FingerOverlayModel", "keptValue", "[I", false)
  | 11 => ("FingerOverlayModel", "keys", "I", false)
  | 12 => ("FingerOverlayModel", "putKey", "[I", false)
  | 13 => ("FingerOverlayModel", "row", "I", false)
  | 14 => ("FingerOverlayModel", "kind", "[I", false)
  | 15 => ("FingerOverlayModel", "to", "[I", false)
  | 16 => ("FingerOverlayModel", "key", "[I", false)
  | 17 => ("FingerOverlayModel", "purpose", "[I", false)
  | 18 => ("FingerOverlayModel", "part", "[I", false)
  | 19 => ("FingerOverlayModel", "asker", "[I", false)
  | 20 => ("FingerOverlayModel", "hop", "[I", false)
  | _ => ("FingerOverlayModel", "brings", "[J", false)
def tyX4 : Nat → FieldType := fun k => match k with
  | 0 => .int
  | 1 => .array (.int)
  | 2 => .array (.int)
  | 3 => .array (.int)
  | 4 => .array (.int)
  | 5 => .array (.long)
  | 6 => .array (.int)
  | 7 => .int
  | 8 => .array (.int)
  | 9 => .array (.int)
  | 10 => .array (.int)
  | 11 => .int
  | 12 => .array (.int)
  | 13 => .int
  | 14 => .array (.int)
  | 15 => .array (.int)
  | 16 => .array (.int)
  | 17 => .array (.int)
  | 18 => .array (.int)
  | 19 => .array (.int)
  | 20 => .array (.int)
  | _ => .array (.long)
theorem nmX4 : ∀ a, a < 22 → ∀ b, b < 22 → a ≠ b → (TX4 a).2.1 ≠ (TX4 b).2.1 := by decide +kernel
theorem tyX4_ok : ∀ k, k < 22 → parseFieldDescriptor (TX4 k).2.2.1 = some (tyX4 k) := by decide +kernel
def RL : String := "FingerOverlayLaw"
def RJ7 : String := "java/util/Arrays"
def ROB : String := "java/lang/Object"
abbrev cX3_init : ByteArray := prog_1_method_1_code
def yX3_init : MethodName := ⟨RX3, "<init>", "()V"⟩
abbrev cOB_init : ByteArray := object_method_1_code
def yOB_init : MethodName := ⟨ROB, "<init>", "()V"⟩
abbrev cX2_init : ByteArray := prog_4_method_1_code
def yX2_init : MethodName := ⟨RX2, "<init>", "()V"⟩
abbrev cX0_init : ByteArray := prog_2_method_1_code
def yX0_init : MethodName := ⟨RX0, "<init>", "()V"⟩
abbrev cX3_create : ByteArray := prog_1_method_2_code
def yX3_create : MethodName := ⟨RX3, "create", "(I)Z"⟩
abbrev cX3_isId : ByteArray := prog_1_method_22_code
def yX3_isId : MethodName := ⟨RX3, "isId", "(I)Z"⟩
abbrev cX3_addNode : ByteArray := prog_1_method_28_code
def yX3_addNode : MethodName := ⟨RX3, "addNode", "(I)LFingerOverlay$Node;"⟩
abbrev cX1_init : ByteArray := prog_3_method_1_code
def yX1_init : MethodName := ⟨RX1, "<init>", "(I)V"⟩
abbrev cJ7_filli : ByteArray := prog_7_method_103_code
def yJ7_filli : MethodName := ⟨RJ7, "fill", "([II)V"⟩
abbrev cJ7_filll : ByteArray := prog_7_method_101_code
def yJ7_filll : MethodName := ⟨RJ7, "fill", "([JJ)V"⟩
abbrev cX3_join : ByteArray := prog_1_method_3_code
def yX3_join : MethodName := ⟨RX3, "join", "(II)Z"⟩
abbrev cX3_nodeWith : ByteArray := prog_1_method_29_code
def yX3_nodeWith : MethodName := ⟨RX3, "nodeWith", "(I)LFingerOverlay$Node;"⟩
abbrev cX3_memberWith : ByteArray := prog_1_method_30_code
def yX3_memberWith : MethodName := ⟨RX3, "memberWith", "(I)LFingerOverlay$Node;"⟩
abbrev cX1_isMember : ByteArray := prog_3_method_2_code
def yX1_isMember : MethodName := ⟨RX1, "isMember", "()Z"⟩
abbrev cX2_isFull : ByteArray := prog_4_method_2_code
def yX2_isFull : MethodName := ⟨RX2, "isFull", "()Z"⟩
abbrev cX3_sendFind : ByteArray := prog_1_method_37_code
def yX3_sendFind : MethodName := ⟨RX3, "sendFind", "(IIII)LFingerOverlay$Message;"⟩
abbrev cX2_send : ByteArray := prog_4_method_5_code
def yX2_send : MethodName := ⟨RX2, "send", "(II)LFingerOverlay$Message;"⟩
abbrev cX3_stabilise : ByteArray := prog_1_method_4_code
def yX3_stabilise : MethodName := ⟨RX3, "stabilise", "(I)Z"⟩
abbrev cX3_fix : ByteArray := prog_1_method_5_code
def yX3_fix : MethodName := ⟨RX3, "fix", "(II)Z"⟩
abbrev cX3_isFinger : ByteArray := prog_1_method_23_code
def yX3_isFinger : MethodName := ⟨RX3, "isFinger", "(I)Z"⟩
abbrev cX3_fingerStart : ByteArray := prog_1_method_24_code
def yX3_fingerStart : MethodName := ⟨RX3, "fingerStart", "(II)I"⟩
abbrev cX3_put : ByteArray := prog_1_method_6_code
def yX3_put : MethodName := ⟨RX3, "put", "(III)Z"⟩
abbrev cX3_takeKey : ByteArray := prog_1_method_35_code
def yX3_takeKey : MethodName := ⟨RX3, "takeKey", "(I)Z"⟩
abbrev cX3_slotOf : ByteArray := prog_1_method_34_code
def yX3_slotOf : MethodName := ⟨RX3, "slotOf", "(I)I"⟩
abbrev cX3_get : ByteArray := prog_1_method_7_code
def yX3_get : MethodName := ⟨RX3, "get", "(II)Z"⟩
abbrev cX3_deliver : ByteArray := prog_1_method_8_code
def yX3_deliver : MethodName := ⟨RX3, "deliver", "(I)I"⟩
abbrev cX3_arrive : ByteArray := prog_1_method_38_code
def yX3_arrive : MethodName := ⟨RX3, "arrive", "(I)I"⟩
abbrev cX2_takeOut : ByteArray := prog_4_method_4_code
def yX2_takeOut : MethodName := ⟨RX2, "takeOut", "(I)LFingerOverlay$Message;"⟩
abbrev cX2_at : ByteArray := prog_4_method_3_code
def yX2_at : MethodName := ⟨RX2, "at", "(I)LFingerOverlay$Message;"⟩
abbrev cX3_findArrives : ByteArray := prog_1_method_39_code
def yX3_findArrives : MethodName := ⟨RX3, "findArrives", "(LFingerOverlay$Node;LFingerOverlay$Message;)V"⟩
abbrev cX3_isPastUpTo : ByteArray := prog_1_method_26_code
def yX3_isPastUpTo : MethodName := ⟨RX3, "isPastUpTo", "(III)Z"⟩
abbrev cX3_stepsUp : ByteArray := prog_1_method_25_code
def yX3_stepsUp : MethodName := ⟨RX3, "stepsUp", "(II)I"⟩
abbrev cX3_passOn : ByteArray := prog_1_method_40_code
def yX3_passOn : MethodName := ⟨RX3, "passOn", "(LFingerOverlay$Node;LFingerOverlay$Message;)V"⟩
abbrev cX3_nextTowards : ByteArray := prog_1_method_41_code
def yX3_nextTowards : MethodName := ⟨RX3, "nextTowards", "(LFingerOverlay$Node;I)I"⟩
abbrev cX3_isBetween : ByteArray := prog_1_method_27_code
def yX3_isBetween : MethodName := ⟨RX3, "isBetween", "(III)Z"⟩
abbrev cX3_foundArrives : ByteArray := prog_1_method_42_code
def yX3_foundArrives : MethodName := ⟨RX3, "foundArrives", "(LFingerOverlay$Node;LFingerOverlay$Message;)V"⟩
abbrev cX3_storeArrives : ByteArray := prog_1_method_43_code
def yX3_storeArrives : MethodName := ⟨RX3, "storeArrives", "(LFingerOverlay$Node;LFingerOverlay$Message;)V"⟩
abbrev cX3_fetchArrives : ByteArray := prog_1_method_44_code
def yX3_fetchArrives : MethodName := ⟨RX3, "fetchArrives", "(LFingerOverlay$Node;LFingerOverlay$Message;)V"⟩
abbrev cX3_valueAt : ByteArray := prog_1_method_36_code
def yX3_valueAt : MethodName := ⟨RX3, "valueAt", "(LFingerOverlay$Node;I)J"⟩
abbrev cX3_askArrives : ByteArray := prog_1_method_45_code
def yX3_askArrives : MethodName := ⟨RX3, "askArrives", "(LFingerOverlay$Node;LFingerOverlay$Message;)V"⟩
abbrev cX3_tellArrives : ByteArray := prog_1_method_46_code
def yX3_tellArrives : MethodName := ⟨RX3, "tellArrives", "(LFingerOverlay$Node;LFingerOverlay$Message;)V"⟩
abbrev cX3_notifyArrives : ByteArray := prog_1_method_47_code
def yX3_notifyArrives : MethodName := ⟨RX3, "notifyArrives", "(LFingerOverlay$Node;LFingerOverlay$Message;)V"⟩
abbrev cX3_handOver : ByteArray := prog_1_method_48_code
def yX3_handOver : MethodName := ⟨RX3, "handOver", "(LFingerOverlay$Node;LFingerOverlay$Node;)V"⟩
abbrev cX3_pump : ByteArray := prog_1_method_9_code
def yX3_pump : MethodName := ⟨RX3, "pump", "(I)I"⟩
abbrev cX3_flying : ByteArray := prog_1_method_10_code
def yX3_flying : MethodName := ⟨RX3, "flying", "()I"⟩
abbrev cX3_message : ByteArray := prog_1_method_11_code
def yX3_message : MethodName := ⟨RX3, "message", "(I)I"⟩
abbrev cX3_successor : ByteArray := prog_1_method_12_code
def yX3_successor : MethodName := ⟨RX3, "successor", "(I)I"⟩
abbrev cX3_predecessor : ByteArray := prog_1_method_13_code
def yX3_predecessor : MethodName := ⟨RX3, "predecessor", "(I)I"⟩
abbrev cX3_finger : ByteArray := prog_1_method_14_code
def yX3_finger : MethodName := ⟨RX3, "finger", "(II)I"⟩
abbrev cX3_entry : ByteArray := prog_1_method_15_code
def yX3_entry : MethodName := ⟨RX3, "entry", "(II)J"⟩
abbrev cX3_entries : ByteArray := prog_1_method_16_code
def yX3_entries : MethodName := ⟨RX3, "entries", "(I)I"⟩
abbrev cX3_answer : ByteArray := prog_1_method_17_code
def yX3_answer : MethodName := ⟨RX3, "answer", "(I)J"⟩
abbrev cX3_hops : ByteArray := prog_1_method_18_code
def yX3_hops : MethodName := ⟨RX3, "hops", "(I)I"⟩
abbrev cX3_owner : ByteArray := prog_1_method_19_code
def yX3_owner : MethodName := ⟨RX3, "owner", "(I)I"⟩
abbrev cX3_firstUpFrom : ByteArray := prog_1_method_31_code
def yX3_firstUpFrom : MethodName := ⟨RX3, "firstUpFrom", "(I)I"⟩
abbrev cX3_wrong : ByteArray := prog_1_method_20_code
def yX3_wrong : MethodName := ⟨RX3, "wrong", "()I"⟩
abbrev cX3_wrongPointers : ByteArray := prog_1_method_33_code
def yX3_wrongPointers : MethodName := ⟨RX3, "wrongPointers", "(LFingerOverlay$Node;)I"⟩
abbrev cX3_firstDownFrom : ByteArray := prog_1_method_32_code
def yX3_firstDownFrom : MethodName := ⟨RX3, "firstDownFrom", "(I)I"⟩
abbrev cX3_misplaced : ByteArray := prog_1_method_21_code
def yX3_misplaced : MethodName := ⟨RX3, "misplaced", "()I"⟩
abbrev cX4_init : ByteArray := prog_6_method_1_code
def yX4_init : MethodName := ⟨RX4, "<init>", "()V"⟩
abbrev cX4_create : ByteArray := prog_6_method_10_code
def yX4_create : MethodName := ⟨RX4, "create", "(I)Z"⟩
abbrev cX4_isId : ByteArray := prog_6_method_2_code
def yX4_isId : MethodName := ⟨RX4, "isId", "(I)Z"⟩
abbrev cX4_join : ByteArray := prog_6_method_11_code
def yX4_join : MethodName := ⟨RX4, "join", "(II)Z"⟩
abbrev cX4_isMember : ByteArray := prog_6_method_3_code
def yX4_isMember : MethodName := ⟨RX4, "isMember", "(I)Z"⟩
abbrev cX4_ask : ByteArray := prog_6_method_9_code
def yX4_ask : MethodName := ⟨RX4, "ask", "(IIIIJ)V"⟩
abbrev cX4_post : ByteArray := prog_6_method_7_code
def yX4_post : MethodName := ⟨RX4, "post", "(IIII)V"⟩
abbrev cX4_stabilise : ByteArray := prog_6_method_12_code
def yX4_stabilise : MethodName := ⟨RX4, "stabilise", "(I)Z"⟩
abbrev cX4_fix : ByteArray := prog_6_method_13_code
def yX4_fix : MethodName := ⟨RX4, "fix", "(II)Z"⟩
abbrev cX4_put : ByteArray := prog_6_method_14_code
def yX4_put : MethodName := ⟨RX4, "put", "(III)Z"⟩
abbrev cX4_get : ByteArray := prog_6_method_15_code
def yX4_get : MethodName := ⟨RX4, "get", "(II)Z"⟩
abbrev cX4_deliver : ByteArray := prog_6_method_26_code
def yX4_deliver : MethodName := ⟨RX4, "deliver", "(I)I"⟩
abbrev cX4_arrive : ByteArray := prog_6_method_20_code
def yX4_arrive : MethodName := ⟨RX4, "arrive", "(I)V"⟩
abbrev cX4_copy : ByteArray := prog_6_method_8_code
def yX4_copy : MethodName := ⟨RX4, "copy", "(II)V"⟩
abbrev cX4_find : ByteArray := prog_6_method_21_code
def yX4_find : MethodName := ⟨RX4, "find", "(I)V"⟩
abbrev cX4_past : ByteArray := prog_6_method_4_code
def yX4_past : MethodName := ⟨RX4, "past", "(III)Z"⟩
abbrev cX4_between : ByteArray := prog_6_method_5_code
def yX4_between : MethodName := ⟨RX4, "between", "(III)Z"⟩
abbrev cX4_found : ByteArray := prog_6_method_22_code
def yX4_found : MethodName := ⟨RX4, "found", "(I)V"⟩
abbrev cX4_keep : ByteArray := prog_6_method_17_code
def yX4_keep : MethodName := ⟨RX4, "keep", "(III)V"⟩
abbrev cX4_entryAt : ByteArray := prog_6_method_16_code
def yX4_entryAt : MethodName := ⟨RX4, "entryAt", "(II)I"⟩
abbrev cX4_fetch : ByteArray := prog_6_method_23_code
def yX4_fetch : MethodName := ⟨RX4, "fetch", "(I)V"⟩
abbrev cX4_tell : ByteArray := prog_6_method_24_code
def yX4_tell : MethodName := ⟨RX4, "tell", "(I)V"⟩
abbrev cX4_notified : ByteArray := prog_6_method_25_code
def yX4_notified : MethodName := ⟨RX4, "notified", "(I)V"⟩
abbrev cX4_handOver : ByteArray := prog_6_method_19_code
def yX4_handOver : MethodName := ⟨RX4, "handOver", "(II)V"⟩
abbrev cX4_dropEntry : ByteArray := prog_6_method_18_code
def yX4_dropEntry : MethodName := ⟨RX4, "dropEntry", "(I)V"⟩
abbrev cX4_pump : ByteArray := prog_6_method_27_code
def yX4_pump : MethodName := ⟨RX4, "pump", "(I)I"⟩
abbrev cX4_flying : ByteArray := prog_6_method_28_code
def yX4_flying : MethodName := ⟨RX4, "flying", "()I"⟩
abbrev cX4_message : ByteArray := prog_6_method_29_code
def yX4_message : MethodName := ⟨RX4, "message", "(I)I"⟩
abbrev cX4_successor : ByteArray := prog_6_method_30_code
def yX4_successor : MethodName := ⟨RX4, "successor", "(I)I"⟩
abbrev cX4_predecessor : ByteArray := prog_6_method_31_code
def yX4_predecessor : MethodName := ⟨RX4, "predecessor", "(I)I"⟩
abbrev cX4_finger : ByteArray := prog_6_method_32_code
def yX4_finger : MethodName := ⟨RX4, "finger", "(II)I"⟩
abbrev cX4_entry : ByteArray := prog_6_method_33_code
def yX4_entry : MethodName := ⟨RX4, "entry", "(II)J"⟩
abbrev cX4_entries : ByteArray := prog_6_method_34_code
def yX4_entries : MethodName := ⟨RX4, "entries", "(I)I"⟩
abbrev cX4_answer : ByteArray := prog_6_method_35_code
def yX4_answer : MethodName := ⟨RX4, "answer", "(I)J"⟩
abbrev cX4_hops : ByteArray := prog_6_method_36_code
def yX4_hops : MethodName := ⟨RX4, "hops", "(I)I"⟩
abbrev cX4_owner : ByteArray := prog_6_method_37_code
def yX4_owner : MethodName := ⟨RX4, "owner", "(I)I"⟩
abbrev cX4_first : ByteArray := prog_6_method_6_code
def yX4_first : MethodName := ⟨RX4, "first", "(II)I"⟩
abbrev cX4_wrong : ByteArray := prog_6_method_38_code
def yX4_wrong : MethodName := ⟨RX4, "wrong", "()I"⟩
abbrev cX4_misplaced : ByteArray := prog_6_method_39_code
def yX4_misplaced : MethodName := ⟨RX4, "misplaced", "()I"⟩
abbrev cL_law : ByteArray := code
def wT : List Cond := lw_tbl.filter goodWord
theorem wt_in {w : Cond} (i : Nat) (h : lw_tbl[i]? = some w) (hg : goodWord w = true) : w ∈ wT := List.mem_filter.mpr ⟨List.mem_of_getElem? h, hg⟩
theorem wt_good {w : Cond} (h : w ∈ wT) : (w.onTables && w.keeps) = true ∨ ∃ ty, w = .arrayClass ty := good_of_word (List.mem_filter.mp h).2
theorem wt_tbl {w : Cond} (h : w ∈ wT) : w ∈ lw_tbl := (List.mem_filter.mp h).1
def wsX3_init : List Cond := .code yX3_init cX3_init 1 none :: wT
def wsX2_init : List Cond := .code yX2_init cX2_init 2 none :: wT
def wsX0_init : List Cond := .code yX0_init cX0_init 1 none :: wT
def wsX3_create : List Cond := .code yX3_create cX3_create 3 (some .boolean) :: wT
def wsX3_isId : List Cond := .code yX3_isId cX3_isId 1 (some .boolean) :: wT
def wsX3_addNode : List Cond := .code yX3_addNode cX3_addNode 3 (some (.object "FingerOverlay$Node")) :: wT
def wsX1_init : List Cond := .code yX1_init cX1_init 2 none :: wT
def wsJ7_filli : List Cond := .code yJ7_filli cJ7_filli 4 none :: wT
def wsJ7_filll : List Cond := .code yJ7_filll cJ7_filll 5 none :: wT
def wsX3_join : List Cond := .code yX3_join cX3_join 3 (some .boolean) :: wT
def wsX3_nodeWith : List Cond := .code yX3_nodeWith cX3_nodeWith 3 (some (.object "FingerOverlay$Node")) :: wT
def wsX3_memberWith : List Cond := .code yX3_memberWith cX3_memberWith 3 (some (.object "FingerOverlay$Node")) :: wT
def wsX1_isMember : List Cond := .code yX1_isMember cX1_isMember 1 (some .boolean) :: wT
def wsX2_isFull : List Cond := .code yX2_isFull cX2_isFull 1 (some .boolean) :: wT
def wsX3_sendFind : List Cond := .code yX3_sendFind cX3_sendFind 6 (some (.object "FingerOverlay$Message")) :: wT
def wsX2_send : List Cond := .code yX2_send cX2_send 4 (some (.object "FingerOverlay$Message")) :: wT
def wsX3_stabilise : List Cond := .code yX3_stabilise cX3_stabilise 4 (some .boolean) :: wT
def wsX3_fix : List Cond := .code yX3_fix cX3_fix 4 (some .boolean) :: wT
def wsX3_isFinger : List Cond := .code yX3_isFinger cX3_isFinger 1 (some .boolean) :: wT
def wsX3_fingerStart : List Cond := .code yX3_fingerStart cX3_fingerStart 2 (some .int) :: wT
def wsX3_put : List Cond := .code yX3_put cX3_put 5 (some .boolean) :: wT
def wsX3_takeKey : List Cond := .code yX3_takeKey cX3_takeKey 2 (some .boolean) :: wT
def wsX3_slotOf : List Cond := .code yX3_slotOf cX3_slotOf 3 (some .int) :: wT
def wsX3_get : List Cond := .code yX3_get cX3_get 3 (some .boolean) :: wT
def wsX3_deliver : List Cond := .code yX3_deliver cX3_deliver 2 (some .int) :: wT
def wsX3_arrive : List Cond := .code yX3_arrive cX3_arrive 4 (some .int) :: wT
def wsX2_takeOut : List Cond := .code yX2_takeOut cX2_takeOut 4 (some (.object "FingerOverlay$Message")) :: wT
def wsX2_at : List Cond := .code yX2_at cX2_at 2 (some (.object "FingerOverlay$Message")) :: wT
def wsX3_findArrives : List Cond := .code yX3_findArrives cX3_findArrives 4 none :: wT
def wsX3_isPastUpTo : List Cond := .code yX3_isPastUpTo cX3_isPastUpTo 3 (some .boolean) :: wT
def wsX3_stepsUp : List Cond := .code yX3_stepsUp cX3_stepsUp 2 (some .int) :: wT
def wsX3_passOn : List Cond := .code yX3_passOn cX3_passOn 4 none :: wT
def wsX3_nextTowards : List Cond := .code yX3_nextTowards cX3_nextTowards 4 (some .int) :: wT
def wsX3_isBetween : List Cond := .code yX3_isBetween cX3_isBetween 3 (some .boolean) :: wT
def wsX3_foundArrives : List Cond := .code yX3_foundArrives cX3_foundArrives 3 none :: wT
def wsX3_storeArrives : List Cond := .code yX3_storeArrives cX3_storeArrives 4 none :: wT
def wsX3_fetchArrives : List Cond := .code yX3_fetchArrives cX3_fetchArrives 4 none :: wT
def wsX3_valueAt : List Cond := .code yX3_valueAt cX3_valueAt 4 (some .long) :: wT
def wsX3_askArrives : List Cond := .code yX3_askArrives cX3_askArrives 4 none :: wT
def wsX3_tellArrives : List Cond := .code yX3_tellArrives cX3_tellArrives 4 none :: wT
def wsX3_notifyArrives : List Cond := .code yX3_notifyArrives cX3_notifyArrives 3 none :: wT
def wsX3_handOver : List Cond := .code yX3_handOver cX3_handOver 4 none :: wT
def wsX3_pump : List Cond := .code yX3_pump cX3_pump 3 (some .int) :: wT
def wsX3_flying : List Cond := .code yX3_flying cX3_flying 1 (some .int) :: wT
def wsX3_message : List Cond := .code yX3_message cX3_message 3 (some .int) :: wT
def wsX3_successor : List Cond := .code yX3_successor cX3_successor 3 (some .int) :: wT
def wsX3_predecessor : List Cond := .code yX3_predecessor cX3_predecessor 3 (some .int) :: wT
def wsX3_finger : List Cond := .code yX3_finger cX3_finger 4 (some .int) :: wT
def wsX3_entry : List Cond := .code yX3_entry cX3_entry 4 (some .long) :: wT
def wsX3_entries : List Cond := .code yX3_entries cX3_entries 5 (some .int) :: wT
def wsX3_answer : List Cond := .code yX3_answer cX3_answer 3 (some .long) :: wT
def wsX3_hops : List Cond := .code yX3_hops cX3_hops 3 (some .int) :: wT
def wsX3_owner : List Cond := .code yX3_owner cX3_owner 2 (some .int) :: wT
def wsX3_firstUpFrom : List Cond := .code yX3_firstUpFrom cX3_firstUpFrom 5 (some .int) :: wT
def wsX3_wrong : List Cond := .code yX3_wrong cX3_wrong 3 (some .int) :: wT
def wsX3_wrongPointers : List Cond := .code yX3_wrongPointers cX3_wrongPointers 4 (some .int) :: wT
def wsX3_firstDownFrom : List Cond := .code yX3_firstDownFrom cX3_firstDownFrom 5 (some .int) :: wT
def wsX3_misplaced : List Cond := .code yX3_misplaced cX3_misplaced 5 (some .int) :: wT
def wsX4_init : List Cond := .code yX4_init cX4_init 2 none :: wT
def wsX4_create : List Cond := .code yX4_create cX4_create 2 (some .boolean) :: wT
def wsX4_isId : List Cond := .code yX4_isId cX4_isId 1 (some .boolean) :: wT
def wsX4_join : List Cond := .code yX4_join cX4_join 3 (some .boolean) :: wT
def wsX4_isMember : List Cond := .code yX4_isMember cX4_isMember 2 (some .boolean) :: wT
def wsX4_ask : List Cond := .code yX4_ask cX4_ask 7 none :: wT
def wsX4_post : List Cond := .code yX4_post cX4_post 5 none :: wT
def wsX4_stabilise : List Cond := .code yX4_stabilise cX4_stabilise 2 (some .boolean) :: wT
def wsX4_fix : List Cond := .code yX4_fix cX4_fix 3 (some .boolean) :: wT
def wsX4_put : List Cond := .code yX4_put cX4_put 6 (some .boolean) :: wT
def wsX4_get : List Cond := .code yX4_get cX4_get 3 (some .boolean) :: wT
def wsX4_deliver : List Cond := .code yX4_deliver cX4_deliver 3 (some .int) :: wT
def wsX4_arrive : List Cond := .code yX4_arrive cX4_arrive 3 none :: wT
def wsX4_copy : List Cond := .code yX4_copy cX4_copy 3 none :: wT
def wsX4_find : List Cond := .code yX4_find cX4_find 6 none :: wT
def wsX4_past : List Cond := .code yX4_past cX4_past 5 (some .boolean) :: wT
def wsX4_between : List Cond := .code yX4_between cX4_between 3 (some .boolean) :: wT
def wsX4_found : List Cond := .code yX4_found cX4_found 3 none :: wT
def wsX4_keep : List Cond := .code yX4_keep cX4_keep 5 none :: wT
def wsX4_entryAt : List Cond := .code yX4_entryAt cX4_entryAt 5 (some .int) :: wT
def wsX4_fetch : List Cond := .code yX4_fetch cX4_fetch 3 none :: wT
def wsX4_tell : List Cond := .code yX4_tell cX4_tell 3 none :: wT
def wsX4_notified : List Cond := .code yX4_notified cX4_notified 3 none :: wT
def wsX4_handOver : List Cond := .code yX4_handOver cX4_handOver 6 none :: wT
def wsX4_dropEntry : List Cond := .code yX4_dropEntry cX4_dropEntry 3 none :: wT
def wsX4_pump : List Cond := .code yX4_pump cX4_pump 3 (some .int) :: wT
def wsX4_flying : List Cond := .code yX4_flying cX4_flying 1 (some .int) :: wT
def wsX4_message : List Cond := .code yX4_message cX4_message 2 (some .int) :: wT
def wsX4_successor : List Cond := .code yX4_successor cX4_successor 2 (some .int) :: wT
def wsX4_predecessor : List Cond := .code yX4_predecessor cX4_predecessor 2 (some .int) :: wT
def wsX4_finger : List Cond := .code yX4_finger cX4_finger 3 (some .int) :: wT
def wsX4_entry : List Cond := .code yX4_entry cX4_entry 4 (some .long) :: wT
def wsX4_entries : List Cond := .code yX4_entries cX4_entries 4 (some .int) :: wT
def wsX4_answer : List Cond := .code yX4_answer cX4_answer 2 (some .long) :: wT
def wsX4_hops : List Cond := .code yX4_hops cX4_hops 2 (some .int) :: wT
def wsX4_owner : List Cond := .code yX4_owner cX4_owner 2 (some .int) :: wT
def wsX4_first : List Cond := .code yX4_first cX4_first 5 (some .int) :: wT
def wsX4_wrong : List Cond := .code yX4_wrong cX4_wrong 4 (some .int) :: wT
def wsX4_misplaced : List Cond := .code yX4_misplaced cX4_misplaced 3 (some .int) :: wT
abbrev vwCl : List vw_C := [(RX0, TX0, 9), (RX1, TX1, 7), (RX2, TX2, 2), (RX3, TX3, 5), (RX4, TX4, 22)]
theorem wsel_X3_addNode : Cond.selects RX3 yX3_addNode yX3_addNode ∈ wT := wt_in 0 (by decide +kernel) (by decide +kernel)
theorem wsel_X3_nodeWith : Cond.selects RX3 yX3_nodeWith yX3_nodeWith ∈ wT := wt_in 1 (by decide +kernel) (by decide +kernel)
theorem wsel_X3_memberWith : Cond.selects RX3 yX3_memberWith yX3_memberWith ∈ wT := wt_in 2 (by decide +kernel) (by decide +kernel)
theorem wsel_X3_sendFind : Cond.selects RX3 yX3_sendFind yX3_sendFind ∈ wT := wt_in 3 (by decide +kernel) (by decide +kernel)
theorem wsel_X3_takeKey : Cond.selects RX3 yX3_takeKey yX3_takeKey ∈ wT := wt_in 4 (by decide +kernel) (by decide +kernel)
theorem wsel_X3_slotOf : Cond.selects RX3 yX3_slotOf yX3_slotOf ∈ wT := wt_in 5 (by decide +kernel) (by decide +kernel)
theorem wsel_X3_arrive : Cond.selects RX3 yX3_arrive yX3_arrive ∈ wT := wt_in 6 (by decide +kernel) (by decide +kernel)
theorem wsel_X3_findArrives : Cond.selects RX3 yX3_findArrives yX3_findArrives ∈ wT := wt_in 7 (by decide +kernel) (by decide +kernel)
theorem wsel_X3_passOn : Cond.selects RX3 yX3_passOn yX3_passOn ∈ wT := wt_in 8 (by decide +kernel) (by decide +kernel)
theorem wsel_X3_foundArrives : Cond.selects RX3 yX3_foundArrives yX3_foundArrives ∈ wT := wt_in 9 (by decide +kernel) (by decide +kernel)
theorem wsel_X3_storeArrives : Cond.selects RX3 yX3_storeArrives yX3_storeArrives ∈ wT := wt_in 10 (by decide +kernel) (by decide +kernel)
theorem wsel_X3_fetchArrives : Cond.selects RX3 yX3_fetchArrives yX3_fetchArrives ∈ wT := wt_in 11 (by decide +kernel) (by decide +kernel)
theorem wsel_X3_valueAt : Cond.selects RX3 yX3_valueAt yX3_valueAt ∈ wT := wt_in 12 (by decide +kernel) (by decide +kernel)
theorem wsel_X3_askArrives : Cond.selects RX3 yX3_askArrives yX3_askArrives ∈ wT := wt_in 13 (by decide +kernel) (by decide +kernel)
theorem wsel_X3_tellArrives : Cond.selects RX3 yX3_tellArrives yX3_tellArrives ∈ wT := wt_in 14 (by decide +kernel) (by decide +kernel)
theorem wsel_X3_notifyArrives : Cond.selects RX3 yX3_notifyArrives yX3_notifyArrives ∈ wT := wt_in 15 (by decide +kernel) (by decide +kernel)
theorem wsel_X3_handOver : Cond.selects RX3 yX3_handOver yX3_handOver ∈ wT := wt_in 16 (by decide +kernel) (by decide +kernel)
theorem wsel_X3_firstUpFrom : Cond.selects RX3 yX3_firstUpFrom yX3_firstUpFrom ∈ wT := wt_in 17 (by decide +kernel) (by decide +kernel)
theorem wsel_X3_wrongPointers : Cond.selects RX3 yX3_wrongPointers yX3_wrongPointers ∈ wT := wt_in 18 (by decide +kernel) (by decide +kernel)
theorem wsel_X3_firstDownFrom : Cond.selects RX3 yX3_firstDownFrom yX3_firstDownFrom ∈ wT := wt_in 19 (by decide +kernel) (by decide +kernel)
theorem wsel_X4_isMember : Cond.selects RX4 yX4_isMember yX4_isMember ∈ wT := wt_in 20 (by decide +kernel) (by decide +kernel)
theorem wsel_X4_ask : Cond.selects RX4 yX4_ask yX4_ask ∈ wT := wt_in 21 (by decide +kernel) (by decide +kernel)
theorem wsel_X4_post : Cond.selects RX4 yX4_post yX4_post ∈ wT := wt_in 22 (by decide +kernel) (by decide +kernel)
theorem wsel_X4_arrive : Cond.selects RX4 yX4_arrive yX4_arrive ∈ wT := wt_in 23 (by decide +kernel) (by decide +kernel)
theorem wsel_X4_copy : Cond.selects RX4 yX4_copy yX4_copy ∈ wT := wt_in 24 (by decide +kernel) (by decide +kernel)
theorem wsel_X4_find : Cond.selects RX4 yX4_find yX4_find ∈ wT := wt_in 25 (by decide +kernel) (by decide +kernel)
theorem wsel_X4_found : Cond.selects RX4 yX4_found yX4_found ∈ wT := wt_in 26 (by decide +kernel) (by decide +kernel)
theorem wsel_X4_keep : Cond.selects RX4 yX4_keep yX4_keep ∈ wT := wt_in 27 (by decide +kernel) (by decide +kernel)
theorem wsel_X4_entryAt : Cond.selects RX4 yX4_entryAt yX4_entryAt ∈ wT := wt_in 28 (by decide +kernel) (by decide +kernel)
theorem wsel_X4_fetch : Cond.selects RX4 yX4_fetch yX4_fetch ∈ wT := wt_in 29 (by decide +kernel) (by decide +kernel)
theorem wsel_X4_tell : Cond.selects RX4 yX4_tell yX4_tell ∈ wT := wt_in 30 (by decide +kernel) (by decide +kernel)
theorem wsel_X4_notified : Cond.selects RX4 yX4_notified yX4_notified ∈ wT := wt_in 31 (by decide +kernel) (by decide +kernel)
theorem wsel_X4_handOver : Cond.selects RX4 yX4_handOver yX4_handOver ∈ wT := wt_in 32 (by decide +kernel) (by decide +kernel)
theorem wsel_X4_dropEntry : Cond.selects RX4 yX4_dropEntry yX4_dropEntry ∈ wT := wt_in 33 (by decide +kernel) (by decide +kernel)
theorem wsel_X4_first : Cond.selects RX4 yX4_first yX4_first ∈ wT := wt_in 34 (by decide +kernel) (by decide +kernel)
theorem wini_L : Cond.initialized RL ∈ wT := wt_in 35 (by decide +kernel) (by decide +kernel)
theorem wini_X3 : Cond.initialized RX3 ∈ wT := wt_in 36 (by decide +kernel) (by decide +kernel)
theorem wini_X2 : Cond.initialized RX2 ∈ wT := wt_in 37 (by decide +kernel) (by decide +kernel)
theorem wini_X0 : Cond.initialized RX0 ∈ wT := wt_in 38 (by decide +kernel) (by decide +kernel)
theorem wini_X4 : Cond.initialized RX4 ∈ wT := wt_in 39 (by decide +kernel) (by decide +kernel)
theorem wini_X1 : Cond.initialized RX1 ∈ wT := wt_in 40 (by decide +kernel) (by decide +kernel)
theorem wini_J7 : Cond.initialized RJ7 ∈ wT := wt_in 41 (by decide +kernel) (by decide +kernel)
theorem wK_L_7 : Cond.classLink RL 7 RX3 ∈ wT := wt_in 42 (by decide +kernel) (by decide +kernel)
theorem wnew_X3 : Cond.instantiable RX3 5 ∈ wT := wt_in 43 (by decide +kernel) (by decide +kernel)
theorem wM_L_9 : Cond.methodLink RL 9 yX3_init ∈ wT := wt_in 44 (by decide +kernel) (by decide +kernel)
theorem wi_X3_init : Cond.instanceMethod yX3_init ∈ wT := wt_in 45 (by decide +kernel) (by decide +kernel)
theorem wcode_X3_init : Cond.code yX3_init cX3_init 1 none ∈ wT := wt_in 46 (by decide +kernel) (by decide +kernel)
theorem wM_X3_1 : Cond.methodLink RX3 1 yOB_init ∈ wT := wt_in 47 (by decide +kernel) (by decide +kernel)
theorem wi_OB_init : Cond.instanceMethod yOB_init ∈ wT := wt_in 48 (by decide +kernel) (by decide +kernel)
theorem wcode_OB_init : Cond.code yOB_init cOB_init 1 none ∈ wT := wt_in 49 (by decide +kernel) (by decide +kernel)
theorem wK_X3_9 : Cond.classLink RX3 9 RX1 ∈ wT := wt_in 50 (by decide +kernel) (by decide +kernel)
theorem wK_X3_26 : Cond.classLink RX3 26 RX2 ∈ wT := wt_in 52 (by decide +kernel) (by decide +kernel)
theorem wnew_X2 : Cond.instantiable RX2 2 ∈ wT := wt_in 53 (by decide +kernel) (by decide +kernel)
theorem wM_X3_28 : Cond.methodLink RX3 28 yX2_init ∈ wT := wt_in 54 (by decide +kernel) (by decide +kernel)
theorem wi_X2_init : Cond.instanceMethod yX2_init ∈ wT := wt_in 55 (by decide +kernel) (by decide +kernel)
theorem wcode_X2_init : Cond.code yX2_init cX2_init 2 none ∈ wT := wt_in 56 (by decide +kernel) (by decide +kernel)
theorem wM_X2_3 : Cond.methodLink RX2 3 yOB_init ∈ wT := wt_in 57 (by decide +kernel) (by decide +kernel)
theorem wK_X2_9 : Cond.classLink RX2 9 RX0 ∈ wT := wt_in 58 (by decide +kernel) (by decide +kernel)
theorem wnew_X0 : Cond.instantiable RX0 9 ∈ wT := wt_in 60 (by decide +kernel) (by decide +kernel)
theorem wi_X0_init : Cond.instanceMethod yX0_init ∈ wT := wt_in 62 (by decide +kernel) (by decide +kernel)
theorem wcode_X0_init : Cond.code yX0_init cX0_init 1 none ∈ wT := wt_in 63 (by decide +kernel) (by decide +kernel)
theorem wM_X0_1 : Cond.methodLink RX0 1 yOB_init ∈ wT := wt_in 64 (by decide +kernel) (by decide +kernel)
theorem wF_X2_26 : Cond.fieldLink RX2 26 "FingerOverlay$Message" "kind" "I" ∈ wT := wt_in 65 (by decide +kernel) (by decide +kernel)
theorem wF_X3_95 : Cond.fieldLink RX3 95 "FingerOverlay$Message" "kind" "I" ∈ wT := wt_in 66 (by decide +kernel) (by decide +kernel)
theorem wF_X2_29 : Cond.fieldLink RX2 29 "FingerOverlay$Message" "to" "I" ∈ wT := wt_in 67 (by decide +kernel) (by decide +kernel)
theorem wF_X3_98 : Cond.fieldLink RX3 98 "FingerOverlay$Message" "to" "I" ∈ wT := wt_in 68 (by decide +kernel) (by decide +kernel)
theorem wF_X2_32 : Cond.fieldLink RX2 32 "FingerOverlay$Message" "asker" "I" ∈ wT := wt_in 69 (by decide +kernel) (by decide +kernel)
theorem wF_X3_150 : Cond.fieldLink RX3 150 "FingerOverlay$Message" "asker" "I" ∈ wT := wt_in 70 (by decide +kernel) (by decide +kernel)
theorem wF_X2_35 : Cond.fieldLink RX2 35 "FingerOverlay$Message" "purpose" "I" ∈ wT := wt_in 71 (by decide +kernel) (by decide +kernel)
theorem wF_X3_153 : Cond.fieldLink RX3 153 "FingerOverlay$Message" "purpose" "I" ∈ wT := wt_in 72 (by decide +kernel) (by decide +kernel)
theorem wF_X2_38 : Cond.fieldLink RX2 38 "FingerOverlay$Message" "key" "I" ∈ wT := wt_in 73 (by decide +kernel) (by decide +kernel)
theorem wF_X3_156 : Cond.fieldLink RX3 156 "FingerOverlay$Message" "key" "I" ∈ wT := wt_in 74 (by decide +kernel) (by decide +kernel)
theorem wF_X3_74 : Cond.fieldLink RX3 74 "FingerOverlay$Message" "finger" "I" ∈ wT := wt_in 75 (by decide +kernel) (by decide +kernel)
theorem wF_X2_41 : Cond.fieldLink RX2 41 "FingerOverlay$Message" "finger" "I" ∈ wT := wt_in 76 (by decide +kernel) (by decide +kernel)
theorem wF_X3_62 : Cond.fieldLink RX3 62 "FingerOverlay$Message" "member" "I" ∈ wT := wt_in 77 (by decide +kernel) (by decide +kernel)
theorem wF_X2_44 : Cond.fieldLink RX2 44 "FingerOverlay$Message" "member" "I" ∈ wT := wt_in 78 (by decide +kernel) (by decide +kernel)
theorem wF_X2_47 : Cond.fieldLink RX2 47 "FingerOverlay$Message" "hops" "I" ∈ wT := wt_in 79 (by decide +kernel) (by decide +kernel)
theorem wF_X3_175 : Cond.fieldLink RX3 175 "FingerOverlay$Message" "hops" "I" ∈ wT := wt_in 80 (by decide +kernel) (by decide +kernel)
theorem wF_X2_50 : Cond.fieldLink RX2 50 "FingerOverlay$Message" "value" "J" ∈ wT := wt_in 81 (by decide +kernel) (by decide +kernel)
theorem wF_X3_80 : Cond.fieldLink RX3 80 "FingerOverlay$Message" "value" "J" ∈ wT := wt_in 82 (by decide +kernel) (by decide +kernel)
theorem warr_int : Cond.arrayClass .int ∈ wT := wt_in 102 (by decide +kernel) (by decide +kernel)
theorem wF_X2_11 : Cond.fieldLink RX2 11 "FingerOverlay$Row" "messages" "[LFingerOverlay$Message;" ∈ wT := wt_in 103 (by decide +kernel) (by decide +kernel)
theorem wF_X2_17 : Cond.fieldLink RX2 17 "FingerOverlay$Row" "size" "I" ∈ wT := wt_in 104 (by decide +kernel) (by decide +kernel)
theorem wF_X3_88 : Cond.fieldLink RX3 88 "FingerOverlay$Row" "size" "I" ∈ wT := wt_in 105 (by decide +kernel) (by decide +kernel)
theorem wF_X3_11 : Cond.fieldLink RX3 11 "FingerOverlay" "nodes" "[LFingerOverlay$Node;" ∈ wT := wt_in 111 (by decide +kernel) (by decide +kernel)
theorem wF_X3_15 : Cond.fieldLink RX3 15 "FingerOverlay" "nodeCount" "I" ∈ wT := wt_in 112 (by decide +kernel) (by decide +kernel)
theorem wF_X3_19 : Cond.fieldLink RX3 19 "FingerOverlay" "keys" "[I" ∈ wT := wt_in 113 (by decide +kernel) (by decide +kernel)
theorem wF_X3_23 : Cond.fieldLink RX3 23 "FingerOverlay" "keyCount" "I" ∈ wT := wt_in 114 (by decide +kernel) (by decide +kernel)
theorem wF_X3_29 : Cond.fieldLink RX3 29 "FingerOverlay" "row" "LFingerOverlay$Row;" ∈ wT := wt_in 115 (by decide +kernel) (by decide +kernel)
theorem wM_L_13 : Cond.methodLink RL 13 yX3_create ∈ wT := wt_in 127 (by decide +kernel) (by decide +kernel)
theorem wi_X3_create : Cond.instanceMethod yX3_create ∈ wT := wt_in 128 (by decide +kernel) (by decide +kernel)
theorem wsel_X3_create : Cond.selects RX3 yX3_create yX3_create ∈ wT := wt_in 129 (by decide +kernel) (by decide +kernel)
theorem wcode_X3_create : Cond.code yX3_create cX3_create 3 (some .boolean) ∈ wT := wt_in 130 (by decide +kernel) (by decide +kernel)
theorem wM_X3_33 : Cond.methodLink RX3 33 yX3_isId ∈ wT := wt_in 131 (by decide +kernel) (by decide +kernel)
theorem wst_X3_isId : Cond.static yX3_isId ∈ wT := wt_in 132 (by decide +kernel) (by decide +kernel)
theorem wcode_X3_isId : Cond.code yX3_isId cX3_isId 1 (some .boolean) ∈ wT := wt_in 133 (by decide +kernel) (by decide +kernel)
theorem wM_X3_37 : Cond.methodLink RX3 37 yX3_addNode ∈ wT := wt_in 134 (by decide +kernel) (by decide +kernel)
theorem wi_X3_addNode : Cond.instanceMethod yX3_addNode ∈ wT := wt_in 136 (by decide +kernel) (by decide +kernel)
theorem wcode_X3_addNode : Cond.code yX3_addNode cX3_addNode 3 (some (.object "FingerOverlay$Node")) ∈ wT := wt_in 137 (by decide +kernel) (by decide +kernel)
theorem wnew_X1 : Cond.instantiable RX1 7 ∈ wT := wt_in 138 (by decide +kernel) (by decide +kernel)
theorem wM_X3_141 : Cond.methodLink RX3 141 yX1_init ∈ wT := wt_in 139 (by decide +kernel) (by decide +kernel)
theorem wi_X1_init : Cond.instanceMethod yX1_init ∈ wT := wt_in 140 (by decide +kernel) (by decide +kernel)
theorem wcode_X1_init : Cond.code yX1_init cX1_init 2 none ∈ wT := wt_in 141 (by decide +kernel) (by decide +kernel)
theorem wM_X1_3 : Cond.methodLink RX1 3 yOB_init ∈ wT := wt_in 142 (by decide +kernel) (by decide +kernel)
theorem wC_X1_26 : Cond.constantLong RX1 26 8589934592 ∈ wT := wt_in 143 (by decide +kernel) (by decide +kernel)
theorem wM_X1_38 : Cond.methodLink RX1 38 yJ7_filli ∈ wT := wt_in 144 (by decide +kernel) (by decide +kernel)
theorem wst_J7_filli : Cond.static yJ7_filli ∈ wT := wt_in 145 (by decide +kernel) (by decide +kernel)
theorem wcode_J7_filli : Cond.code yJ7_filli cJ7_filli 4 none ∈ wT := wt_in 146 (by decide +kernel) (by decide +kernel)
theorem wC_X1_44 : Cond.constantLong RX1 44 4294967296 ∈ wT := wt_in 147 (by decide +kernel) (by decide +kernel)
theorem wM_X1_46 : Cond.methodLink RX1 46 yJ7_filll ∈ wT := wt_in 148 (by decide +kernel) (by decide +kernel)
theorem wst_J7_filll : Cond.static yJ7_filll ∈ wT := wt_in 149 (by decide +kernel) (by decide +kernel)
theorem wcode_J7_filll : Cond.code yJ7_filll cJ7_filll 5 none ∈ wT := wt_in 150 (by decide +kernel) (by decide +kernel)
theorem wF_X1_35 : Cond.fieldLink RX1 35 "FingerOverlay$Node" "id" "I" ∈ wT := wt_in 151 (by decide +kernel) (by decide +kernel)
theorem wF_X3_135 : Cond.fieldLink RX3 135 "FingerOverlay$Node" "id" "I" ∈ wT := wt_in 152 (by decide +kernel) (by decide +kernel)
theorem wF_X1_9 : Cond.fieldLink RX1 9 "FingerOverlay$Node" "successor" "I" ∈ wT := wt_in 153 (by decide +kernel) (by decide +kernel)
theorem wF_X3_41 : Cond.fieldLink RX3 41 "FingerOverlay$Node" "successor" "I" ∈ wT := wt_in 154 (by decide +kernel) (by decide +kernel)
theorem wF_X1_15 : Cond.fieldLink RX1 15 "FingerOverlay$Node" "predecessor" "I" ∈ wT := wt_in 155 (by decide +kernel) (by decide +kernel)
theorem wF_X3_101 : Cond.fieldLink RX3 101 "FingerOverlay$Node" "predecessor" "I" ∈ wT := wt_in 156 (by decide +kernel) (by decide +kernel)
theorem wF_X1_18 : Cond.fieldLink RX1 18 "FingerOverlay$Node" "fingers" "[I" ∈ wT := wt_in 157 (by decide +kernel) (by decide +kernel)
theorem wF_X3_104 : Cond.fieldLink RX3 104 "FingerOverlay$Node" "fingers" "[I" ∈ wT := wt_in 158 (by decide +kernel) (by decide +kernel)
theorem wF_X1_22 : Cond.fieldLink RX1 22 "FingerOverlay$Node" "values" "[J" ∈ wT := wt_in 159 (by decide +kernel) (by decide +kernel)
theorem wF_X3_113 : Cond.fieldLink RX3 113 "FingerOverlay$Node" "values" "[J" ∈ wT := wt_in 160 (by decide +kernel) (by decide +kernel)
theorem wF_X1_28 : Cond.fieldLink RX1 28 "FingerOverlay$Node" "answer" "J" ∈ wT := wt_in 161 (by decide +kernel) (by decide +kernel)
theorem wF_X3_119 : Cond.fieldLink RX3 119 "FingerOverlay$Node" "answer" "J" ∈ wT := wt_in 162 (by decide +kernel) (by decide +kernel)
theorem wF_X1_32 : Cond.fieldLink RX1 32 "FingerOverlay$Node" "hops" "I" ∈ wT := wt_in 163 (by decide +kernel) (by decide +kernel)
theorem wF_X3_122 : Cond.fieldLink RX3 122 "FingerOverlay$Node" "hops" "I" ∈ wT := wt_in 164 (by decide +kernel) (by decide +kernel)
theorem warr_long : Cond.arrayClass .long ∈ wT := wt_in 180 (by decide +kernel) (by decide +kernel)
theorem wM_L_18 : Cond.methodLink RL 18 yX3_join ∈ wT := wt_in 181 (by decide +kernel) (by decide +kernel)
theorem wi_X3_join : Cond.instanceMethod yX3_join ∈ wT := wt_in 182 (by decide +kernel) (by decide +kernel)
theorem wsel_X3_join : Cond.selects RX3 yX3_join yX3_join ∈ wT := wt_in 183 (by decide +kernel) (by decide +kernel)
theorem wcode_X3_join : Cond.code yX3_join cX3_join 3 (some .boolean) ∈ wT := wt_in 184 (by decide +kernel) (by decide +kernel)
theorem wM_X3_44 : Cond.methodLink RX3 44 yX3_nodeWith ∈ wT := wt_in 185 (by decide +kernel) (by decide +kernel)
theorem wi_X3_nodeWith : Cond.instanceMethod yX3_nodeWith ∈ wT := wt_in 187 (by decide +kernel) (by decide +kernel)
theorem wcode_X3_nodeWith : Cond.code yX3_nodeWith cX3_nodeWith 3 (some (.object "FingerOverlay$Node")) ∈ wT := wt_in 188 (by decide +kernel) (by decide +kernel)
theorem wM_X3_47 : Cond.methodLink RX3 47 yX3_memberWith ∈ wT := wt_in 189 (by decide +kernel) (by decide +kernel)
theorem wi_X3_memberWith : Cond.instanceMethod yX3_memberWith ∈ wT := wt_in 191 (by decide +kernel) (by decide +kernel)
theorem wcode_X3_memberWith : Cond.code yX3_memberWith cX3_memberWith 3 (some (.object "FingerOverlay$Node")) ∈ wT := wt_in 192 (by decide +kernel) (by decide +kernel)
theorem wM_X3_128 : Cond.methodLink RX3 128 yX1_isMember ∈ wT := wt_in 193 (by decide +kernel) (by decide +kernel)
theorem wi_X1_isMember : Cond.instanceMethod yX1_isMember ∈ wT := wt_in 194 (by decide +kernel) (by decide +kernel)
theorem wsel_X1_isMember : Cond.selects RX1 yX1_isMember yX1_isMember ∈ wT := wt_in 195 (by decide +kernel) (by decide +kernel)
theorem wcode_X1_isMember : Cond.code yX1_isMember cX1_isMember 1 (some .boolean) ∈ wT := wt_in 196 (by decide +kernel) (by decide +kernel)
theorem wM_X3_50 : Cond.methodLink RX3 50 yX2_isFull ∈ wT := wt_in 197 (by decide +kernel) (by decide +kernel)
theorem wi_X2_isFull : Cond.instanceMethod yX2_isFull ∈ wT := wt_in 198 (by decide +kernel) (by decide +kernel)
theorem wsel_X2_isFull : Cond.selects RX2 yX2_isFull yX2_isFull ∈ wT := wt_in 199 (by decide +kernel) (by decide +kernel)
theorem wcode_X2_isFull : Cond.code yX2_isFull cX2_isFull 1 (some .boolean) ∈ wT := wt_in 200 (by decide +kernel) (by decide +kernel)
theorem wM_X3_54 : Cond.methodLink RX3 54 yX3_sendFind ∈ wT := wt_in 201 (by decide +kernel) (by decide +kernel)
theorem wi_X3_sendFind : Cond.instanceMethod yX3_sendFind ∈ wT := wt_in 203 (by decide +kernel) (by decide +kernel)
theorem wcode_X3_sendFind : Cond.code yX3_sendFind cX3_sendFind 6 (some (.object "FingerOverlay$Message")) ∈ wT := wt_in 204 (by decide +kernel) (by decide +kernel)
theorem wM_X3_58 : Cond.methodLink RX3 58 yX2_send ∈ wT := wt_in 205 (by decide +kernel) (by decide +kernel)
theorem wi_X2_send : Cond.instanceMethod yX2_send ∈ wT := wt_in 206 (by decide +kernel) (by decide +kernel)
theorem wsel_X2_send : Cond.selects RX2 yX2_send yX2_send ∈ wT := wt_in 207 (by decide +kernel) (by decide +kernel)
theorem wcode_X2_send : Cond.code yX2_send cX2_send 4 (some (.object "FingerOverlay$Message")) ∈ wT := wt_in 208 (by decide +kernel) (by decide +kernel)
theorem wM_L_23 : Cond.methodLink RL 23 yX3_stabilise ∈ wT := wt_in 209 (by decide +kernel) (by decide +kernel)
theorem wi_X3_stabilise : Cond.instanceMethod yX3_stabilise ∈ wT := wt_in 210 (by decide +kernel) (by decide +kernel)
theorem wsel_X3_stabilise : Cond.selects RX3 yX3_stabilise yX3_stabilise ∈ wT := wt_in 211 (by decide +kernel) (by decide +kernel)
theorem wcode_X3_stabilise : Cond.code yX3_stabilise cX3_stabilise 4 (some .boolean) ∈ wT := wt_in 212 (by decide +kernel) (by decide +kernel)
theorem wM_L_27 : Cond.methodLink RL 27 yX3_fix ∈ wT := wt_in 213 (by decide +kernel) (by decide +kernel)
theorem wi_X3_fix : Cond.instanceMethod yX3_fix ∈ wT := wt_in 214 (by decide +kernel) (by decide +kernel)
theorem wsel_X3_fix : Cond.selects RX3 yX3_fix yX3_fix ∈ wT := wt_in 215 (by decide +kernel) (by decide +kernel)
theorem wcode_X3_fix : Cond.code yX3_fix cX3_fix 4 (some .boolean) ∈ wT := wt_in 216 (by decide +kernel) (by decide +kernel)
theorem wM_X3_67 : Cond.methodLink RX3 67 yX3_isFinger ∈ wT := wt_in 217 (by decide +kernel) (by decide +kernel)
theorem wst_X3_isFinger : Cond.static yX3_isFinger ∈ wT := wt_in 218 (by decide +kernel) (by decide +kernel)
theorem wcode_X3_isFinger : Cond.code yX3_isFinger cX3_isFinger 1 (some .boolean) ∈ wT := wt_in 219 (by decide +kernel) (by decide +kernel)
theorem wM_X3_70 : Cond.methodLink RX3 70 yX3_fingerStart ∈ wT := wt_in 220 (by decide +kernel) (by decide +kernel)
theorem wst_X3_fingerStart : Cond.static yX3_fingerStart ∈ wT := wt_in 221 (by decide +kernel) (by decide +kernel)
theorem wcode_X3_fingerStart : Cond.code yX3_fingerStart cX3_fingerStart 2 (some .int) ∈ wT := wt_in 222 (by decide +kernel) (by decide +kernel)
theorem wM_L_31 : Cond.methodLink RL 31 yX3_put ∈ wT := wt_in 223 (by decide +kernel) (by decide +kernel)
theorem wi_X3_put : Cond.instanceMethod yX3_put ∈ wT := wt_in 224 (by decide +kernel) (by decide +kernel)
theorem wsel_X3_put : Cond.selects RX3 yX3_put yX3_put ∈ wT := wt_in 225 (by decide +kernel) (by decide +kernel)
theorem wcode_X3_put : Cond.code yX3_put cX3_put 5 (some .boolean) ∈ wT := wt_in 226 (by decide +kernel) (by decide +kernel)
theorem wM_X3_77 : Cond.methodLink RX3 77 yX3_takeKey ∈ wT := wt_in 227 (by decide +kernel) (by decide +kernel)
theorem wi_X3_takeKey : Cond.instanceMethod yX3_takeKey ∈ wT := wt_in 229 (by decide +kernel) (by decide +kernel)
theorem wcode_X3_takeKey : Cond.code yX3_takeKey cX3_takeKey 2 (some .boolean) ∈ wT := wt_in 230 (by decide +kernel) (by decide +kernel)
theorem wM_X3_147 : Cond.methodLink RX3 147 yX3_slotOf ∈ wT := wt_in 231 (by decide +kernel) (by decide +kernel)
theorem wi_X3_slotOf : Cond.instanceMethod yX3_slotOf ∈ wT := wt_in 233 (by decide +kernel) (by decide +kernel)
theorem wcode_X3_slotOf : Cond.code yX3_slotOf cX3_slotOf 3 (some .int) ∈ wT := wt_in 234 (by decide +kernel) (by decide +kernel)
theorem wM_L_36 : Cond.methodLink RL 36 yX3_get ∈ wT := wt_in 235 (by decide +kernel) (by decide +kernel)
theorem wi_X3_get : Cond.instanceMethod yX3_get ∈ wT := wt_in 236 (by decide +kernel) (by decide +kernel)
theorem wsel_X3_get : Cond.selects RX3 yX3_get yX3_get ∈ wT := wt_in 237 (by decide +kernel) (by decide +kernel)
theorem wcode_X3_get : Cond.code yX3_get cX3_get 3 (some .boolean) ∈ wT := wt_in 238 (by decide +kernel) (by decide +kernel)
theorem wM_L_40 : Cond.methodLink RL 40 yX3_deliver ∈ wT := wt_in 239 (by decide +kernel) (by decide +kernel)
theorem wi_X3_deliver : Cond.instanceMethod yX3_deliver ∈ wT := wt_in 240 (by decide +kernel) (by decide +kernel)
theorem wsel_X3_deliver : Cond.selects RX3 yX3_deliver yX3_deliver ∈ wT := wt_in 241 (by decide +kernel) (by decide +kernel)
theorem wcode_X3_deliver : Cond.code yX3_deliver cX3_deliver 2 (some .int) ∈ wT := wt_in 242 (by decide +kernel) (by decide +kernel)
theorem wM_X3_84 : Cond.methodLink RX3 84 yX3_arrive ∈ wT := wt_in 243 (by decide +kernel) (by decide +kernel)
theorem wi_X3_arrive : Cond.instanceMethod yX3_arrive ∈ wT := wt_in 245 (by decide +kernel) (by decide +kernel)
theorem wcode_X3_arrive : Cond.code yX3_arrive cX3_arrive 4 (some .int) ∈ wT := wt_in 246 (by decide +kernel) (by decide +kernel)
theorem wM_X3_159 : Cond.methodLink RX3 159 yX2_takeOut ∈ wT := wt_in 247 (by decide +kernel) (by decide +kernel)
theorem wi_X2_takeOut : Cond.instanceMethod yX2_takeOut ∈ wT := wt_in 248 (by decide +kernel) (by decide +kernel)
theorem wsel_X2_takeOut : Cond.selects RX2 yX2_takeOut yX2_takeOut ∈ wT := wt_in 249 (by decide +kernel) (by decide +kernel)
theorem wcode_X2_takeOut : Cond.code yX2_takeOut cX2_takeOut 4 (some (.object "FingerOverlay$Message")) ∈ wT := wt_in 250 (by decide +kernel) (by decide +kernel)
theorem wM_X2_22 : Cond.methodLink RX2 22 yX2_at ∈ wT := wt_in 251 (by decide +kernel) (by decide +kernel)
theorem wi_X2_at : Cond.instanceMethod yX2_at ∈ wT := wt_in 252 (by decide +kernel) (by decide +kernel)
theorem wsel_X2_at : Cond.selects RX2 yX2_at yX2_at ∈ wT := wt_in 253 (by decide +kernel) (by decide +kernel)
theorem wcode_X2_at : Cond.code yX2_at cX2_at 2 (some (.object "FingerOverlay$Message")) ∈ wT := wt_in 254 (by decide +kernel) (by decide +kernel)
theorem wM_X3_162 : Cond.methodLink RX3 162 yX3_findArrives ∈ wT := wt_in 255 (by decide +kernel) (by decide +kernel)
theorem wi_X3_findArrives : Cond.instanceMethod yX3_findArrives ∈ wT := wt_in 257 (by decide +kernel) (by decide +kernel)
theorem wcode_X3_findArrives : Cond.code yX3_findArrives cX3_findArrives 4 none ∈ wT := wt_in 258 (by decide +kernel) (by decide +kernel)
theorem wM_X3_185 : Cond.methodLink RX3 185 yX3_isPastUpTo ∈ wT := wt_in 259 (by decide +kernel) (by decide +kernel)
theorem wst_X3_isPastUpTo : Cond.static yX3_isPastUpTo ∈ wT := wt_in 260 (by decide +kernel) (by decide +kernel)
theorem wcode_X3_isPastUpTo : Cond.code yX3_isPastUpTo cX3_isPastUpTo 3 (some .boolean) ∈ wT := wt_in 261 (by decide +kernel) (by decide +kernel)
theorem wM_X3_138 : Cond.methodLink RX3 138 yX3_stepsUp ∈ wT := wt_in 262 (by decide +kernel) (by decide +kernel)
theorem wst_X3_stepsUp : Cond.static yX3_stepsUp ∈ wT := wt_in 263 (by decide +kernel) (by decide +kernel)
theorem wcode_X3_stepsUp : Cond.code yX3_stepsUp cX3_stepsUp 2 (some .int) ∈ wT := wt_in 264 (by decide +kernel) (by decide +kernel)
theorem wM_X3_189 : Cond.methodLink RX3 189 yX3_passOn ∈ wT := wt_in 265 (by decide +kernel) (by decide +kernel)
theorem wi_X3_passOn : Cond.instanceMethod yX3_passOn ∈ wT := wt_in 267 (by decide +kernel) (by decide +kernel)
theorem wcode_X3_passOn : Cond.code yX3_passOn cX3_passOn 4 none ∈ wT := wt_in 268 (by decide +kernel) (by decide +kernel)
theorem wM_X3_192 : Cond.methodLink RX3 192 yX3_nextTowards ∈ wT := wt_in 269 (by decide +kernel) (by decide +kernel)
theorem wst_X3_nextTowards : Cond.static yX3_nextTowards ∈ wT := wt_in 270 (by decide +kernel) (by decide +kernel)
theorem wcode_X3_nextTowards : Cond.code yX3_nextTowards cX3_nextTowards 4 (some .int) ∈ wT := wt_in 271 (by decide +kernel) (by decide +kernel)
theorem wM_X3_196 : Cond.methodLink RX3 196 yX3_isBetween ∈ wT := wt_in 272 (by decide +kernel) (by decide +kernel)
theorem wst_X3_isBetween : Cond.static yX3_isBetween ∈ wT := wt_in 273 (by decide +kernel) (by decide +kernel)
theorem wcode_X3_isBetween : Cond.code yX3_isBetween cX3_isBetween 3 (some .boolean) ∈ wT := wt_in 274 (by decide +kernel) (by decide +kernel)
theorem wM_X3_166 : Cond.methodLink RX3 166 yX3_foundArrives ∈ wT := wt_in 275 (by decide +kernel) (by decide +kernel)
theorem wi_X3_foundArrives : Cond.instanceMethod yX3_foundArrives ∈ wT := wt_in 277 (by decide +kernel) (by decide +kernel)
theorem wcode_X3_foundArrives : Cond.code yX3_foundArrives cX3_foundArrives 3 none ∈ wT := wt_in 278 (by decide +kernel) (by decide +kernel)
theorem wM_X3_169 : Cond.methodLink RX3 169 yX3_storeArrives ∈ wT := wt_in 279 (by decide +kernel) (by decide +kernel)
theorem wi_X3_storeArrives : Cond.instanceMethod yX3_storeArrives ∈ wT := wt_in 281 (by decide +kernel) (by decide +kernel)
theorem wcode_X3_storeArrives : Cond.code yX3_storeArrives cX3_storeArrives 4 none ∈ wT := wt_in 282 (by decide +kernel) (by decide +kernel)
theorem wM_X3_172 : Cond.methodLink RX3 172 yX3_fetchArrives ∈ wT := wt_in 283 (by decide +kernel) (by decide +kernel)
theorem wi_X3_fetchArrives : Cond.instanceMethod yX3_fetchArrives ∈ wT := wt_in 285 (by decide +kernel) (by decide +kernel)
theorem wcode_X3_fetchArrives : Cond.code yX3_fetchArrives cX3_fetchArrives 4 none ∈ wT := wt_in 286 (by decide +kernel) (by decide +kernel)
theorem wM_X3_109 : Cond.methodLink RX3 109 yX3_valueAt ∈ wT := wt_in 287 (by decide +kernel) (by decide +kernel)
theorem wi_X3_valueAt : Cond.instanceMethod yX3_valueAt ∈ wT := wt_in 289 (by decide +kernel) (by decide +kernel)
theorem wcode_X3_valueAt : Cond.code yX3_valueAt cX3_valueAt 4 (some .long) ∈ wT := wt_in 290 (by decide +kernel) (by decide +kernel)
theorem wC_X3_107 : Cond.constantLong RX3 107 4294967296 ∈ wT := wt_in 291 (by decide +kernel) (by decide +kernel)
theorem wM_X3_176 : Cond.methodLink RX3 176 yX3_askArrives ∈ wT := wt_in 292 (by decide +kernel) (by decide +kernel)
theorem wi_X3_askArrives : Cond.instanceMethod yX3_askArrives ∈ wT := wt_in 294 (by decide +kernel) (by decide +kernel)
theorem wcode_X3_askArrives : Cond.code yX3_askArrives cX3_askArrives 4 none ∈ wT := wt_in 295 (by decide +kernel) (by decide +kernel)
theorem wM_X3_179 : Cond.methodLink RX3 179 yX3_tellArrives ∈ wT := wt_in 296 (by decide +kernel) (by decide +kernel)
theorem wi_X3_tellArrives : Cond.instanceMethod yX3_tellArrives ∈ wT := wt_in 298 (by decide +kernel) (by decide +kernel)
theorem wcode_X3_tellArrives : Cond.code yX3_tellArrives cX3_tellArrives 4 none ∈ wT := wt_in 299 (by decide +kernel) (by decide +kernel)
theorem wM_X3_182 : Cond.methodLink RX3 182 yX3_notifyArrives ∈ wT := wt_in 300 (by decide +kernel) (by decide +kernel)
theorem wi_X3_notifyArrives : Cond.instanceMethod yX3_notifyArrives ∈ wT := wt_in 302 (by decide +kernel) (by decide +kernel)
theorem wcode_X3_notifyArrives : Cond.code yX3_notifyArrives cX3_notifyArrives 3 none ∈ wT := wt_in 303 (by decide +kernel) (by decide +kernel)
theorem wM_X3_199 : Cond.methodLink RX3 199 yX3_handOver ∈ wT := wt_in 304 (by decide +kernel) (by decide +kernel)
theorem wi_X3_handOver : Cond.instanceMethod yX3_handOver ∈ wT := wt_in 306 (by decide +kernel) (by decide +kernel)
theorem wcode_X3_handOver : Cond.code yX3_handOver cX3_handOver 4 none ∈ wT := wt_in 307 (by decide +kernel) (by decide +kernel)
theorem wM_L_45 : Cond.methodLink RL 45 yX3_pump ∈ wT := wt_in 308 (by decide +kernel) (by decide +kernel)
theorem wi_X3_pump : Cond.instanceMethod yX3_pump ∈ wT := wt_in 309 (by decide +kernel) (by decide +kernel)
theorem wsel_X3_pump : Cond.selects RX3 yX3_pump yX3_pump ∈ wT := wt_in 310 (by decide +kernel) (by decide +kernel)
theorem wcode_X3_pump : Cond.code yX3_pump cX3_pump 3 (some .int) ∈ wT := wt_in 311 (by decide +kernel) (by decide +kernel)
theorem wM_L_49 : Cond.methodLink RL 49 yX3_flying ∈ wT := wt_in 312 (by decide +kernel) (by decide +kernel)
theorem wi_X3_flying : Cond.instanceMethod yX3_flying ∈ wT := wt_in 313 (by decide +kernel) (by decide +kernel)
theorem wsel_X3_flying : Cond.selects RX3 yX3_flying yX3_flying ∈ wT := wt_in 314 (by decide +kernel) (by decide +kernel)
theorem wcode_X3_flying : Cond.code yX3_flying cX3_flying 1 (some .int) ∈ wT := wt_in 315 (by decide +kernel) (by decide +kernel)
theorem wM_L_54 : Cond.methodLink RL 54 yX3_message ∈ wT := wt_in 316 (by decide +kernel) (by decide +kernel)
theorem wi_X3_message : Cond.instanceMethod yX3_message ∈ wT := wt_in 317 (by decide +kernel) (by decide +kernel)
theorem wsel_X3_message : Cond.selects RX3 yX3_message yX3_message ∈ wT := wt_in 318 (by decide +kernel) (by decide +kernel)
theorem wcode_X3_message : Cond.code yX3_message cX3_message 3 (some .int) ∈ wT := wt_in 319 (by decide +kernel) (by decide +kernel)
theorem wM_X3_91 : Cond.methodLink RX3 91 yX2_at ∈ wT := wt_in 320 (by decide +kernel) (by decide +kernel)
theorem wM_L_58 : Cond.methodLink RL 58 yX3_successor ∈ wT := wt_in 321 (by decide +kernel) (by decide +kernel)
theorem wi_X3_successor : Cond.instanceMethod yX3_successor ∈ wT := wt_in 322 (by decide +kernel) (by decide +kernel)
theorem wsel_X3_successor : Cond.selects RX3 yX3_successor yX3_successor ∈ wT := wt_in 323 (by decide +kernel) (by decide +kernel)
theorem wcode_X3_successor : Cond.code yX3_successor cX3_successor 3 (some .int) ∈ wT := wt_in 324 (by decide +kernel) (by decide +kernel)
theorem wM_L_62 : Cond.methodLink RL 62 yX3_predecessor ∈ wT := wt_in 325 (by decide +kernel) (by decide +kernel)
theorem wi_X3_predecessor : Cond.instanceMethod yX3_predecessor ∈ wT := wt_in 326 (by decide +kernel) (by decide +kernel)
theorem wsel_X3_predecessor : Cond.selects RX3 yX3_predecessor yX3_predecessor ∈ wT := wt_in 327 (by decide +kernel) (by decide +kernel)
theorem wcode_X3_predecessor : Cond.code yX3_predecessor cX3_predecessor 3 (some .int) ∈ wT := wt_in 328 (by decide +kernel) (by decide +kernel)
theorem wM_L_66 : Cond.methodLink RL 66 yX3_finger ∈ wT := wt_in 329 (by decide +kernel) (by decide +kernel)
theorem wi_X3_finger : Cond.instanceMethod yX3_finger ∈ wT := wt_in 330 (by decide +kernel) (by decide +kernel)
theorem wsel_X3_finger : Cond.selects RX3 yX3_finger yX3_finger ∈ wT := wt_in 331 (by decide +kernel) (by decide +kernel)
theorem wcode_X3_finger : Cond.code yX3_finger cX3_finger 4 (some .int) ∈ wT := wt_in 332 (by decide +kernel) (by decide +kernel)
theorem wM_L_71 : Cond.methodLink RL 71 yX3_entry ∈ wT := wt_in 333 (by decide +kernel) (by decide +kernel)
theorem wi_X3_entry : Cond.instanceMethod yX3_entry ∈ wT := wt_in 334 (by decide +kernel) (by decide +kernel)
theorem wsel_X3_entry : Cond.selects RX3 yX3_entry yX3_entry ∈ wT := wt_in 335 (by decide +kernel) (by decide +kernel)
theorem wcode_X3_entry : Cond.code yX3_entry cX3_entry 4 (some .long) ∈ wT := wt_in 336 (by decide +kernel) (by decide +kernel)
theorem wM_L_76 : Cond.methodLink RL 76 yX3_entries ∈ wT := wt_in 337 (by decide +kernel) (by decide +kernel)
theorem wi_X3_entries : Cond.instanceMethod yX3_entries ∈ wT := wt_in 338 (by decide +kernel) (by decide +kernel)
theorem wsel_X3_entries : Cond.selects RX3 yX3_entries yX3_entries ∈ wT := wt_in 339 (by decide +kernel) (by decide +kernel)
theorem wcode_X3_entries : Cond.code yX3_entries cX3_entries 5 (some .int) ∈ wT := wt_in 340 (by decide +kernel) (by decide +kernel)
theorem wM_L_80 : Cond.methodLink RL 80 yX3_answer ∈ wT := wt_in 341 (by decide +kernel) (by decide +kernel)
theorem wi_X3_answer : Cond.instanceMethod yX3_answer ∈ wT := wt_in 342 (by decide +kernel) (by decide +kernel)
theorem wsel_X3_answer : Cond.selects RX3 yX3_answer yX3_answer ∈ wT := wt_in 343 (by decide +kernel) (by decide +kernel)
theorem wcode_X3_answer : Cond.code yX3_answer cX3_answer 3 (some .long) ∈ wT := wt_in 344 (by decide +kernel) (by decide +kernel)
theorem wC_X3_117 : Cond.constantLong RX3 117 8589934592 ∈ wT := wt_in 345 (by decide +kernel) (by decide +kernel)
theorem wM_L_85 : Cond.methodLink RL 85 yX3_hops ∈ wT := wt_in 346 (by decide +kernel) (by decide +kernel)
theorem wi_X3_hops : Cond.instanceMethod yX3_hops ∈ wT := wt_in 347 (by decide +kernel) (by decide +kernel)
theorem wsel_X3_hops : Cond.selects RX3 yX3_hops yX3_hops ∈ wT := wt_in 348 (by decide +kernel) (by decide +kernel)
theorem wcode_X3_hops : Cond.code yX3_hops cX3_hops 3 (some .int) ∈ wT := wt_in 349 (by decide +kernel) (by decide +kernel)
theorem wM_L_89 : Cond.methodLink RL 89 yX3_owner ∈ wT := wt_in 350 (by decide +kernel) (by decide +kernel)
theorem wi_X3_owner : Cond.instanceMethod yX3_owner ∈ wT := wt_in 351 (by decide +kernel) (by decide +kernel)
theorem wsel_X3_owner : Cond.selects RX3 yX3_owner yX3_owner ∈ wT := wt_in 352 (by decide +kernel) (by decide +kernel)
theorem wcode_X3_owner : Cond.code yX3_owner cX3_owner 2 (some .int) ∈ wT := wt_in 353 (by decide +kernel) (by decide +kernel)
theorem wM_X3_125 : Cond.methodLink RX3 125 yX3_firstUpFrom ∈ wT := wt_in 354 (by decide +kernel) (by decide +kernel)
theorem wi_X3_firstUpFrom : Cond.instanceMethod yX3_firstUpFrom ∈ wT := wt_in 356 (by decide +kernel) (by decide +kernel)
theorem wcode_X3_firstUpFrom : Cond.code yX3_firstUpFrom cX3_firstUpFrom 5 (some .int) ∈ wT := wt_in 357 (by decide +kernel) (by decide +kernel)
theorem wM_L_93 : Cond.methodLink RL 93 yX3_wrong ∈ wT := wt_in 358 (by decide +kernel) (by decide +kernel)
theorem wi_X3_wrong : Cond.instanceMethod yX3_wrong ∈ wT := wt_in 359 (by decide +kernel) (by decide +kernel)
theorem wsel_X3_wrong : Cond.selects RX3 yX3_wrong yX3_wrong ∈ wT := wt_in 360 (by decide +kernel) (by decide +kernel)
theorem wcode_X3_wrong : Cond.code yX3_wrong cX3_wrong 3 (some .int) ∈ wT := wt_in 361 (by decide +kernel) (by decide +kernel)
theorem wM_X3_131 : Cond.methodLink RX3 131 yX3_wrongPointers ∈ wT := wt_in 362 (by decide +kernel) (by decide +kernel)
theorem wi_X3_wrongPointers : Cond.instanceMethod yX3_wrongPointers ∈ wT := wt_in 364 (by decide +kernel) (by decide +kernel)
theorem wcode_X3_wrongPointers : Cond.code yX3_wrongPointers cX3_wrongPointers 4 (some .int) ∈ wT := wt_in 365 (by decide +kernel) (by decide +kernel)
theorem wM_X3_144 : Cond.methodLink RX3 144 yX3_firstDownFrom ∈ wT := wt_in 366 (by decide +kernel) (by decide +kernel)
theorem wi_X3_firstDownFrom : Cond.instanceMethod yX3_firstDownFrom ∈ wT := wt_in 368 (by decide +kernel) (by decide +kernel)
theorem wcode_X3_firstDownFrom : Cond.code yX3_firstDownFrom cX3_firstDownFrom 5 (some .int) ∈ wT := wt_in 369 (by decide +kernel) (by decide +kernel)
theorem wM_L_97 : Cond.methodLink RL 97 yX3_misplaced ∈ wT := wt_in 370 (by decide +kernel) (by decide +kernel)
theorem wi_X3_misplaced : Cond.instanceMethod yX3_misplaced ∈ wT := wt_in 371 (by decide +kernel) (by decide +kernel)
theorem wsel_X3_misplaced : Cond.selects RX3 yX3_misplaced yX3_misplaced ∈ wT := wt_in 372 (by decide +kernel) (by decide +kernel)
theorem wcode_X3_misplaced : Cond.code yX3_misplaced cX3_misplaced 5 (some .int) ∈ wT := wt_in 373 (by decide +kernel) (by decide +kernel)
theorem wK_L_10 : Cond.classLink RL 10 RX4 ∈ wT := wt_in 374 (by decide +kernel) (by decide +kernel)
theorem wnew_X4 : Cond.instantiable RX4 22 ∈ wT := wt_in 375 (by decide +kernel) (by decide +kernel)
theorem wM_L_12 : Cond.methodLink RL 12 yX4_init ∈ wT := wt_in 376 (by decide +kernel) (by decide +kernel)
theorem wi_X4_init : Cond.instanceMethod yX4_init ∈ wT := wt_in 377 (by decide +kernel) (by decide +kernel)
theorem wcode_X4_init : Cond.code yX4_init cX4_init 2 none ∈ wT := wt_in 378 (by decide +kernel) (by decide +kernel)
theorem wM_X4_1 : Cond.methodLink RX4 1 yOB_init ∈ wT := wt_in 379 (by decide +kernel) (by decide +kernel)
theorem wC_X4_65 : Cond.constantLong RX4 65 8589934592 ∈ wT := wt_in 380 (by decide +kernel) (by decide +kernel)
theorem wF_X4_83 : Cond.fieldLink RX4 83 "FingerOverlayModel" "nodes" "I" ∈ wT := wt_in 381 (by decide +kernel) (by decide +kernel)
theorem wF_X4_7 : Cond.fieldLink RX4 7 "FingerOverlayModel" "rank" "[I" ∈ wT := wt_in 382 (by decide +kernel) (by decide +kernel)
theorem wF_X4_13 : Cond.fieldLink RX4 13 "FingerOverlayModel" "after" "[I" ∈ wT := wt_in 383 (by decide +kernel) (by decide +kernel)
theorem wF_X4_16 : Cond.fieldLink RX4 16 "FingerOverlayModel" "before" "[I" ∈ wT := wt_in 384 (by decide +kernel) (by decide +kernel)
theorem wF_X4_19 : Cond.fieldLink RX4 19 "FingerOverlayModel" "pointer" "[I" ∈ wT := wt_in 385 (by decide +kernel) (by decide +kernel)
theorem wF_X4_22 : Cond.fieldLink RX4 22 "FingerOverlayModel" "told" "[J" ∈ wT := wt_in 386 (by decide +kernel) (by decide +kernel)
theorem wF_X4_26 : Cond.fieldLink RX4 26 "FingerOverlayModel" "way" "[I" ∈ wT := wt_in 387 (by decide +kernel) (by decide +kernel)
theorem wF_X4_96 : Cond.fieldLink RX4 96 "FingerOverlayModel" "kept" "I" ∈ wT := wt_in 388 (by decide +kernel) (by decide +kernel)
theorem wF_X4_29 : Cond.fieldLink RX4 29 "FingerOverlayModel" "keptAt" "[I" ∈ wT := wt_in 389 (by decide +kernel) (by decide +kernel)
theorem wF_X4_32 : Cond.fieldLink RX4 32 "FingerOverlayModel" "keptKey" "[I" ∈ wT := wt_in 390 (by decide +kernel) (by decide +kernel)
theorem wF_X4_35 : Cond.fieldLink RX4 35 "FingerOverlayModel" "keptValue" "[I" ∈ wT := wt_in 391 (by decide +kernel) (by decide +kernel)
theorem wF_X4_93 : Cond.fieldLink RX4 93 "FingerOverlayModel" "keys" "I" ∈ wT := wt_in 392 (by decide +kernel) (by decide +kernel)
theorem wF_X4_38 : Cond.fieldLink RX4 38 "FingerOverlayModel" "putKey" "[I" ∈ wT := wt_in 393 (by decide +kernel) (by decide +kernel)
theorem wF_X4_75 : Cond.fieldLink RX4 75 "FingerOverlayModel" "row" "I" ∈ wT := wt_in 394 (by decide +kernel) (by decide +kernel)
theorem wF_X4_41 : Cond.fieldLink RX4 41 "FingerOverlayModel" "kind" "[I" ∈ wT := wt_in 395 (by decide +kernel) (by decide +kernel)
theorem wF_X4_44 : Cond.fieldLink RX4 44 "FingerOverlayModel" "to" "[I" ∈ wT := wt_in 396 (by decide +kernel) (by decide +kernel)
theorem wF_X4_47 : Cond.fieldLink RX4 47 "FingerOverlayModel" "key" "[I" ∈ wT := wt_in 397 (by decide +kernel) (by decide +kernel)
theorem wF_X4_50 : Cond.fieldLink RX4 50 "FingerOverlayModel" "purpose" "[I" ∈ wT := wt_in 398 (by decide +kernel) (by decide +kernel)
theorem wF_X4_53 : Cond.fieldLink RX4 53 "FingerOverlayModel" "part" "[I" ∈ wT := wt_in 399 (by decide +kernel) (by decide +kernel)
theorem wF_X4_56 : Cond.fieldLink RX4 56 "FingerOverlayModel" "asker" "[I" ∈ wT := wt_in 400 (by decide +kernel) (by decide +kernel)
theorem wF_X4_59 : Cond.fieldLink RX4 59 "FingerOverlayModel" "hop" "[I" ∈ wT := wt_in 401 (by decide +kernel) (by decide +kernel)
theorem wF_X4_62 : Cond.fieldLink RX4 62 "FingerOverlayModel" "brings" "[J" ∈ wT := wt_in 402 (by decide +kernel) (by decide +kernel)
theorem wM_L_17 : Cond.methodLink RL 17 yX4_create ∈ wT := wt_in 448 (by decide +kernel) (by decide +kernel)
theorem wi_X4_create : Cond.instanceMethod yX4_create ∈ wT := wt_in 449 (by decide +kernel) (by decide +kernel)
theorem wsel_X4_create : Cond.selects RX4 yX4_create yX4_create ∈ wT := wt_in 450 (by decide +kernel) (by decide +kernel)
theorem wcode_X4_create : Cond.code yX4_create cX4_create 2 (some .boolean) ∈ wT := wt_in 451 (by decide +kernel) (by decide +kernel)
theorem wM_X4_67 : Cond.methodLink RX4 67 yX4_isId ∈ wT := wt_in 452 (by decide +kernel) (by decide +kernel)
theorem wst_X4_isId : Cond.static yX4_isId ∈ wT := wt_in 453 (by decide +kernel) (by decide +kernel)
theorem wcode_X4_isId : Cond.code yX4_isId cX4_isId 1 (some .boolean) ∈ wT := wt_in 454 (by decide +kernel) (by decide +kernel)
theorem wM_L_22 : Cond.methodLink RL 22 yX4_join ∈ wT := wt_in 455 (by decide +kernel) (by decide +kernel)
theorem wi_X4_join : Cond.instanceMethod yX4_join ∈ wT := wt_in 456 (by decide +kernel) (by decide +kernel)
theorem wsel_X4_join : Cond.selects RX4 yX4_join yX4_join ∈ wT := wt_in 457 (by decide +kernel) (by decide +kernel)
theorem wcode_X4_join : Cond.code yX4_join cX4_join 3 (some .boolean) ∈ wT := wt_in 458 (by decide +kernel) (by decide +kernel)
theorem wM_X4_86 : Cond.methodLink RX4 86 yX4_isMember ∈ wT := wt_in 459 (by decide +kernel) (by decide +kernel)
theorem wi_X4_isMember : Cond.instanceMethod yX4_isMember ∈ wT := wt_in 461 (by decide +kernel) (by decide +kernel)
theorem wcode_X4_isMember : Cond.code yX4_isMember cX4_isMember 2 (some .boolean) ∈ wT := wt_in 462 (by decide +kernel) (by decide +kernel)
theorem wM_X4_89 : Cond.methodLink RX4 89 yX4_ask ∈ wT := wt_in 463 (by decide +kernel) (by decide +kernel)
theorem wi_X4_ask : Cond.instanceMethod yX4_ask ∈ wT := wt_in 465 (by decide +kernel) (by decide +kernel)
theorem wcode_X4_ask : Cond.code yX4_ask cX4_ask 7 none ∈ wT := wt_in 466 (by decide +kernel) (by decide +kernel)
theorem wM_X4_79 : Cond.methodLink RX4 79 yX4_post ∈ wT := wt_in 467 (by decide +kernel) (by decide +kernel)
theorem wi_X4_post : Cond.instanceMethod yX4_post ∈ wT := wt_in 469 (by decide +kernel) (by decide +kernel)
theorem wcode_X4_post : Cond.code yX4_post cX4_post 5 none ∈ wT := wt_in 470 (by decide +kernel) (by decide +kernel)
theorem wM_L_26 : Cond.methodLink RL 26 yX4_stabilise ∈ wT := wt_in 471 (by decide +kernel) (by decide +kernel)
theorem wi_X4_stabilise : Cond.instanceMethod yX4_stabilise ∈ wT := wt_in 472 (by decide +kernel) (by decide +kernel)
theorem wsel_X4_stabilise : Cond.selects RX4 yX4_stabilise yX4_stabilise ∈ wT := wt_in 473 (by decide +kernel) (by decide +kernel)
theorem wcode_X4_stabilise : Cond.code yX4_stabilise cX4_stabilise 2 (some .boolean) ∈ wT := wt_in 474 (by decide +kernel) (by decide +kernel)
theorem wM_L_30 : Cond.methodLink RL 30 yX4_fix ∈ wT := wt_in 475 (by decide +kernel) (by decide +kernel)
theorem wi_X4_fix : Cond.instanceMethod yX4_fix ∈ wT := wt_in 476 (by decide +kernel) (by decide +kernel)
theorem wsel_X4_fix : Cond.selects RX4 yX4_fix yX4_fix ∈ wT := wt_in 477 (by decide +kernel) (by decide +kernel)
theorem wcode_X4_fix : Cond.code yX4_fix cX4_fix 3 (some .boolean) ∈ wT := wt_in 478 (by decide +kernel) (by decide +kernel)
theorem wM_L_35 : Cond.methodLink RL 35 yX4_put ∈ wT := wt_in 479 (by decide +kernel) (by decide +kernel)
theorem wi_X4_put : Cond.instanceMethod yX4_put ∈ wT := wt_in 480 (by decide +kernel) (by decide +kernel)
theorem wsel_X4_put : Cond.selects RX4 yX4_put yX4_put ∈ wT := wt_in 481 (by decide +kernel) (by decide +kernel)
theorem wcode_X4_put : Cond.code yX4_put cX4_put 6 (some .boolean) ∈ wT := wt_in 482 (by decide +kernel) (by decide +kernel)
theorem wM_L_39 : Cond.methodLink RL 39 yX4_get ∈ wT := wt_in 483 (by decide +kernel) (by decide +kernel)
theorem wi_X4_get : Cond.instanceMethod yX4_get ∈ wT := wt_in 484 (by decide +kernel) (by decide +kernel)
theorem wsel_X4_get : Cond.selects RX4 yX4_get yX4_get ∈ wT := wt_in 485 (by decide +kernel) (by decide +kernel)
theorem wcode_X4_get : Cond.code yX4_get cX4_get 3 (some .boolean) ∈ wT := wt_in 486 (by decide +kernel) (by decide +kernel)
theorem wM_L_44 : Cond.methodLink RL 44 yX4_deliver ∈ wT := wt_in 487 (by decide +kernel) (by decide +kernel)
theorem wi_X4_deliver : Cond.instanceMethod yX4_deliver ∈ wT := wt_in 488 (by decide +kernel) (by decide +kernel)
theorem wsel_X4_deliver : Cond.selects RX4 yX4_deliver yX4_deliver ∈ wT := wt_in 489 (by decide +kernel) (by decide +kernel)
theorem wcode_X4_deliver : Cond.code yX4_deliver cX4_deliver 3 (some .int) ∈ wT := wt_in 490 (by decide +kernel) (by decide +kernel)
theorem wM_X4_138 : Cond.methodLink RX4 138 yX4_arrive ∈ wT := wt_in 491 (by decide +kernel) (by decide +kernel)
theorem wi_X4_arrive : Cond.instanceMethod yX4_arrive ∈ wT := wt_in 493 (by decide +kernel) (by decide +kernel)
theorem wcode_X4_arrive : Cond.code yX4_arrive cX4_arrive 3 none ∈ wT := wt_in 494 (by decide +kernel) (by decide +kernel)
theorem wM_X4_111 : Cond.methodLink RX4 111 yX4_copy ∈ wT := wt_in 495 (by decide +kernel) (by decide +kernel)
theorem wi_X4_copy : Cond.instanceMethod yX4_copy ∈ wT := wt_in 497 (by decide +kernel) (by decide +kernel)
theorem wcode_X4_copy : Cond.code yX4_copy cX4_copy 3 none ∈ wT := wt_in 498 (by decide +kernel) (by decide +kernel)
theorem wM_X4_115 : Cond.methodLink RX4 115 yX4_find ∈ wT := wt_in 499 (by decide +kernel) (by decide +kernel)
theorem wi_X4_find : Cond.instanceMethod yX4_find ∈ wT := wt_in 501 (by decide +kernel) (by decide +kernel)
theorem wcode_X4_find : Cond.code yX4_find cX4_find 6 none ∈ wT := wt_in 502 (by decide +kernel) (by decide +kernel)
theorem wM_X4_71 : Cond.methodLink RX4 71 yX4_past ∈ wT := wt_in 503 (by decide +kernel) (by decide +kernel)
theorem wst_X4_past : Cond.static yX4_past ∈ wT := wt_in 504 (by decide +kernel) (by decide +kernel)
theorem wcode_X4_past : Cond.code yX4_past cX4_past 5 (some .boolean) ∈ wT := wt_in 505 (by decide +kernel) (by decide +kernel)
theorem wM_X4_130 : Cond.methodLink RX4 130 yX4_between ∈ wT := wt_in 506 (by decide +kernel) (by decide +kernel)
theorem wst_X4_between : Cond.static yX4_between ∈ wT := wt_in 507 (by decide +kernel) (by decide +kernel)
theorem wcode_X4_between : Cond.code yX4_between cX4_between 3 (some .boolean) ∈ wT := wt_in 508 (by decide +kernel) (by decide +kernel)
theorem wM_X4_118 : Cond.methodLink RX4 118 yX4_found ∈ wT := wt_in 509 (by decide +kernel) (by decide +kernel)
theorem wi_X4_found : Cond.instanceMethod yX4_found ∈ wT := wt_in 511 (by decide +kernel) (by decide +kernel)
theorem wcode_X4_found : Cond.code yX4_found cX4_found 3 none ∈ wT := wt_in 512 (by decide +kernel) (by decide +kernel)
theorem wM_X4_107 : Cond.methodLink RX4 107 yX4_keep ∈ wT := wt_in 513 (by decide +kernel) (by decide +kernel)
theorem wi_X4_keep : Cond.instanceMethod yX4_keep ∈ wT := wt_in 515 (by decide +kernel) (by decide +kernel)
theorem wcode_X4_keep : Cond.code yX4_keep cX4_keep 5 none ∈ wT := wt_in 516 (by decide +kernel) (by decide +kernel)
theorem wM_X4_99 : Cond.methodLink RX4 99 yX4_entryAt ∈ wT := wt_in 517 (by decide +kernel) (by decide +kernel)
theorem wi_X4_entryAt : Cond.instanceMethod yX4_entryAt ∈ wT := wt_in 519 (by decide +kernel) (by decide +kernel)
theorem wcode_X4_entryAt : Cond.code yX4_entryAt cX4_entryAt 5 (some .int) ∈ wT := wt_in 520 (by decide +kernel) (by decide +kernel)
theorem wM_X4_121 : Cond.methodLink RX4 121 yX4_fetch ∈ wT := wt_in 521 (by decide +kernel) (by decide +kernel)
theorem wi_X4_fetch : Cond.instanceMethod yX4_fetch ∈ wT := wt_in 523 (by decide +kernel) (by decide +kernel)
theorem wcode_X4_fetch : Cond.code yX4_fetch cX4_fetch 3 none ∈ wT := wt_in 524 (by decide +kernel) (by decide +kernel)
theorem wC_X4_133 : Cond.constantLong RX4 133 4294967296 ∈ wT := wt_in 525 (by decide +kernel) (by decide +kernel)
theorem wM_X4_124 : Cond.methodLink RX4 124 yX4_tell ∈ wT := wt_in 526 (by decide +kernel) (by decide +kernel)
theorem wi_X4_tell : Cond.instanceMethod yX4_tell ∈ wT := wt_in 528 (by decide +kernel) (by decide +kernel)
theorem wcode_X4_tell : Cond.code yX4_tell cX4_tell 3 none ∈ wT := wt_in 529 (by decide +kernel) (by decide +kernel)
theorem wM_X4_127 : Cond.methodLink RX4 127 yX4_notified ∈ wT := wt_in 530 (by decide +kernel) (by decide +kernel)
theorem wi_X4_notified : Cond.instanceMethod yX4_notified ∈ wT := wt_in 532 (by decide +kernel) (by decide +kernel)
theorem wcode_X4_notified : Cond.code yX4_notified cX4_notified 3 none ∈ wT := wt_in 533 (by decide +kernel) (by decide +kernel)
theorem wM_X4_135 : Cond.methodLink RX4 135 yX4_handOver ∈ wT := wt_in 534 (by decide +kernel) (by decide +kernel)
theorem wi_X4_handOver : Cond.instanceMethod yX4_handOver ∈ wT := wt_in 536 (by decide +kernel) (by decide +kernel)
theorem wcode_X4_handOver : Cond.code yX4_handOver cX4_handOver 6 none ∈ wT := wt_in 537 (by decide +kernel) (by decide +kernel)
theorem wM_X4_103 : Cond.methodLink RX4 103 yX4_dropEntry ∈ wT := wt_in 538 (by decide +kernel) (by decide +kernel)
theorem wi_X4_dropEntry : Cond.instanceMethod yX4_dropEntry ∈ wT := wt_in 540 (by decide +kernel) (by decide +kernel)
theorem wcode_X4_dropEntry : Cond.code yX4_dropEntry cX4_dropEntry 3 none ∈ wT := wt_in 541 (by decide +kernel) (by decide +kernel)
theorem wM_L_48 : Cond.methodLink RL 48 yX4_pump ∈ wT := wt_in 542 (by decide +kernel) (by decide +kernel)
theorem wi_X4_pump : Cond.instanceMethod yX4_pump ∈ wT := wt_in 543 (by decide +kernel) (by decide +kernel)
theorem wsel_X4_pump : Cond.selects RX4 yX4_pump yX4_pump ∈ wT := wt_in 544 (by decide +kernel) (by decide +kernel)
theorem wcode_X4_pump : Cond.code yX4_pump cX4_pump 3 (some .int) ∈ wT := wt_in 545 (by decide +kernel) (by decide +kernel)
theorem wM_L_53 : Cond.methodLink RL 53 yX4_flying ∈ wT := wt_in 546 (by decide +kernel) (by decide +kernel)
theorem wi_X4_flying : Cond.instanceMethod yX4_flying ∈ wT := wt_in 547 (by decide +kernel) (by decide +kernel)
theorem wsel_X4_flying : Cond.selects RX4 yX4_flying yX4_flying ∈ wT := wt_in 548 (by decide +kernel) (by decide +kernel)
theorem wcode_X4_flying : Cond.code yX4_flying cX4_flying 1 (some .int) ∈ wT := wt_in 549 (by decide +kernel) (by decide +kernel)
theorem wM_L_57 : Cond.methodLink RL 57 yX4_message ∈ wT := wt_in 550 (by decide +kernel) (by decide +kernel)
theorem wi_X4_message : Cond.instanceMethod yX4_message ∈ wT := wt_in 551 (by decide +kernel) (by decide +kernel)
theorem wsel_X4_message : Cond.selects RX4 yX4_message yX4_message ∈ wT := wt_in 552 (by decide +kernel) (by decide +kernel)
theorem wcode_X4_message : Cond.code yX4_message cX4_message 2 (some .int) ∈ wT := wt_in 553 (by decide +kernel) (by decide +kernel)
theorem wM_L_61 : Cond.methodLink RL 61 yX4_successor ∈ wT := wt_in 554 (by decide +kernel) (by decide +kernel)
theorem wi_X4_successor : Cond.instanceMethod yX4_successor ∈ wT := wt_in 555 (by decide +kernel) (by decide +kernel)
theorem wsel_X4_successor : Cond.selects RX4 yX4_successor yX4_successor ∈ wT := wt_in 556 (by decide +kernel) (by decide +kernel)
theorem wcode_X4_successor : Cond.code yX4_successor cX4_successor 2 (some .int) ∈ wT := wt_in 557 (by decide +kernel) (by decide +kernel)
theorem wM_L_65 : Cond.methodLink RL 65 yX4_predecessor ∈ wT := wt_in 558 (by decide +kernel) (by decide +kernel)
theorem wi_X4_predecessor : Cond.instanceMethod yX4_predecessor ∈ wT := wt_in 559 (by decide +kernel) (by decide +kernel)
theorem wsel_X4_predecessor : Cond.selects RX4 yX4_predecessor yX4_predecessor ∈ wT := wt_in 560 (by decide +kernel) (by decide +kernel)
theorem wcode_X4_predecessor : Cond.code yX4_predecessor cX4_predecessor 2 (some .int) ∈ wT := wt_in 561 (by decide +kernel) (by decide +kernel)
theorem wM_L_70 : Cond.methodLink RL 70 yX4_finger ∈ wT := wt_in 562 (by decide +kernel) (by decide +kernel)
theorem wi_X4_finger : Cond.instanceMethod yX4_finger ∈ wT := wt_in 563 (by decide +kernel) (by decide +kernel)
theorem wsel_X4_finger : Cond.selects RX4 yX4_finger yX4_finger ∈ wT := wt_in 564 (by decide +kernel) (by decide +kernel)
theorem wcode_X4_finger : Cond.code yX4_finger cX4_finger 3 (some .int) ∈ wT := wt_in 565 (by decide +kernel) (by decide +kernel)
theorem wM_L_75 : Cond.methodLink RL 75 yX4_entry ∈ wT := wt_in 566 (by decide +kernel) (by decide +kernel)
theorem wi_X4_entry : Cond.instanceMethod yX4_entry ∈ wT := wt_in 567 (by decide +kernel) (by decide +kernel)
theorem wsel_X4_entry : Cond.selects RX4 yX4_entry yX4_entry ∈ wT := wt_in 568 (by decide +kernel) (by decide +kernel)
theorem wcode_X4_entry : Cond.code yX4_entry cX4_entry 4 (some .long) ∈ wT := wt_in 569 (by decide +kernel) (by decide +kernel)
theorem wM_L_79 : Cond.methodLink RL 79 yX4_entries ∈ wT := wt_in 570 (by decide +kernel) (by decide +kernel)
theorem wi_X4_entries : Cond.instanceMethod yX4_entries ∈ wT := wt_in 571 (by decide +kernel) (by decide +kernel)
theorem wsel_X4_entries : Cond.selects RX4 yX4_entries yX4_entries ∈ wT := wt_in 572 (by decide +kernel) (by decide +kernel)
theorem wcode_X4_entries : Cond.code yX4_entries cX4_entries 4 (some .int) ∈ wT := wt_in 573 (by decide +kernel) (by decide +kernel)
theorem wM_L_84 : Cond.methodLink RL 84 yX4_answer ∈ wT := wt_in 574 (by decide +kernel) (by decide +kernel)
theorem wi_X4_answer : Cond.instanceMethod yX4_answer ∈ wT := wt_in 575 (by decide +kernel) (by decide +kernel)
theorem wsel_X4_answer : Cond.selects RX4 yX4_answer yX4_answer ∈ wT := wt_in 576 (by decide +kernel) (by decide +kernel)
theorem wcode_X4_answer : Cond.code yX4_answer cX4_answer 2 (some .long) ∈ wT := wt_in 577 (by decide +kernel) (by decide +kernel)
theorem wM_L_88 : Cond.methodLink RL 88 yX4_hops ∈ wT := wt_in 578 (by decide +kernel) (by decide +kernel)
theorem wi_X4_hops : Cond.instanceMethod yX4_hops ∈ wT := wt_in 579 (by decide +kernel) (by decide +kernel)
theorem wsel_X4_hops : Cond.selects RX4 yX4_hops yX4_hops ∈ wT := wt_in 580 (by decide +kernel) (by decide +kernel)
theorem wcode_X4_hops : Cond.code yX4_hops cX4_hops 2 (some .int) ∈ wT := wt_in 581 (by decide +kernel) (by decide +kernel)
theorem wM_L_92 : Cond.methodLink RL 92 yX4_owner ∈ wT := wt_in 582 (by decide +kernel) (by decide +kernel)
theorem wi_X4_owner : Cond.instanceMethod yX4_owner ∈ wT := wt_in 583 (by decide +kernel) (by decide +kernel)
theorem wsel_X4_owner : Cond.selects RX4 yX4_owner yX4_owner ∈ wT := wt_in 584 (by decide +kernel) (by decide +kernel)
theorem wcode_X4_owner : Cond.code yX4_owner cX4_owner 2 (some .int) ∈ wT := wt_in 585 (by decide +kernel) (by decide +kernel)
theorem wM_X4_141 : Cond.methodLink RX4 141 yX4_first ∈ wT := wt_in 586 (by decide +kernel) (by decide +kernel)
theorem wi_X4_first : Cond.instanceMethod yX4_first ∈ wT := wt_in 588 (by decide +kernel) (by decide +kernel)
theorem wcode_X4_first : Cond.code yX4_first cX4_first 5 (some .int) ∈ wT := wt_in 589 (by decide +kernel) (by decide +kernel)
theorem wM_L_96 : Cond.methodLink RL 96 yX4_wrong ∈ wT := wt_in 590 (by decide +kernel) (by decide +kernel)
theorem wi_X4_wrong : Cond.instanceMethod yX4_wrong ∈ wT := wt_in 591 (by decide +kernel) (by decide +kernel)
theorem wsel_X4_wrong : Cond.selects RX4 yX4_wrong yX4_wrong ∈ wT := wt_in 592 (by decide +kernel) (by decide +kernel)
theorem wcode_X4_wrong : Cond.code yX4_wrong cX4_wrong 4 (some .int) ∈ wT := wt_in 593 (by decide +kernel) (by decide +kernel)
theorem wM_L_100 : Cond.methodLink RL 100 yX4_misplaced ∈ wT := wt_in 594 (by decide +kernel) (by decide +kernel)
theorem wi_X4_misplaced : Cond.instanceMethod yX4_misplaced ∈ wT := wt_in 595 (by decide +kernel) (by decide +kernel)
theorem wsel_X4_misplaced : Cond.selects RX4 yX4_misplaced yX4_misplaced ∈ wT := wt_in 596 (by decide +kernel) (by decide +kernel)
theorem wcode_X4_misplaced : Cond.code yX4_misplaced cX4_misplaced 3 (some .int) ∈ wT := wt_in 597 (by decide +kernel) (by decide +kernel)
theorem inX0 : ∀ w ∈ u_ws RX0 TX0 9, w ∈ wT := by
  have h : (u_ws RX0 TX0 9).all (fun w => decide (w ∈ lw_tbl) && goodWord w) = true := by decide +kernel
  intro w hw
  have h1 := List.all_eq_true.mp h w hw
  rw [Bool.and_eq_true, decide_eq_true_eq] at h1
  exact List.mem_filter.mpr h1
theorem inX1 : ∀ w ∈ u_ws RX1 TX1 7, w ∈ wT := by
  have h : (u_ws RX1 TX1 7).all (fun w => decide (w ∈ lw_tbl) && goodWord w) = true := by decide +kernel
  intro w hw
  have h1 := List.all_eq_true.mp h w hw
  rw [Bool.and_eq_true, decide_eq_true_eq] at h1
  exact List.mem_filter.mpr h1
theorem inX2 : ∀ w ∈ u_ws RX2 TX2 2, w ∈ wT := by
  have h : (u_ws RX2 TX2 2).all (fun w => decide (w ∈ lw_tbl) && goodWord w) = true := by decide +kernel
  intro w hw
  have h1 := List.all_eq_true.mp h w hw
  rw [Bool.and_eq_true, decide_eq_true_eq] at h1
  exact List.mem_filter.mpr h1
theorem inX3 : ∀ w ∈ u_ws RX3 TX3 5, w ∈ wT := by
  have h : (u_ws RX3 TX3 5).all (fun w => decide (w ∈ lw_tbl) && goodWord w) = true := by decide +kernel
  intro w hw
  have h1 := List.all_eq_true.mp h w hw
  rw [Bool.and_eq_true, decide_eq_true_eq] at h1
  exact List.mem_filter.mpr h1
theorem inX4 : ∀ w ∈ u_ws RX4 TX4 22, w ∈ wT := by
  have h : (u_ws RX4 TX4 22).all (fun w => decide (w ∈ lw_tbl) && goodWord w) = true := by decide +kernel
  intro w hw
  have h1 := List.all_eq_true.mp h w hw
  rw [Bool.and_eq_true, decide_eq_true_eq] at h1
  exact List.mem_filter.mpr h1
theorem gd_0 {c0 c1 : Cond} (h : c1 ∈ wT) : GoodIn (c0 :: wT) (c1 :: wT) := fun w hw => by
  rcases List.mem_cons.mp hw with rfl | hw
  · exact ⟨List.mem_cons_of_mem _ h, wt_good h⟩
  · exact ⟨List.mem_cons_of_mem _ hw, wt_good hw⟩
theorem gd_in {c0 w : Cond} (h : w ∈ wT) : w ∈ (c0 :: wT) ∧ ((w.onTables && w.keeps) = true ∨ ∃ ty, w = .arrayClass ty) := ⟨List.mem_cons_of_mem _ h, wt_good h⟩
theorem gd_V {c0 c1 : Cond} {own C : String} {idx : Nat} {y : MethodName} (h1 : Cond.methodLink own idx y ∈ wT) (h2 : Cond.instanceMethod y ∈ wT) (h3 : Cond.selects C y y ∈ wT) (h4 : Cond.initialized C ∈ wT) (h5 : c1 ∈ wT) : GoodIn (c0 :: wT) (wsV own idx C y (c1 :: wT)) := by
  intro w hw
  unfold wsV at hw
  rcases List.mem_append.mp hw with hw | hw
  · simp only [List.mem_cons, List.not_mem_nil, or_false] at hw
    rcases hw with rfl | rfl | rfl | rfl
    · exact gd_in h1
    · exact gd_in h2
    · exact gd_in h3
    · exact gd_in h4
  · exact gd_0 h5 w hw
theorem gd_S {c0 c1 : Cond} {own : String} {idx : Nat} {y : MethodName} (h1 : Cond.methodLink own idx y ∈ wT) (h2 : Cond.static y ∈ wT) (h4 : Cond.initialized own ∈ wT) (h5 : c1 ∈ wT) : GoodIn (c0 :: wT) (wsS own idx y (c1 :: wT)) := by
  intro w hw
  unfold wsS at hw
  rcases List.mem_append.mp hw with hw | hw
  · simp only [List.mem_cons, List.not_mem_nil, or_false] at hw
    rcases hw with rfl | rfl | rfl
    · exact gd_in h1
    · exact gd_in h2
    · exact gd_in h4
  · exact gd_0 h5 w hw
theorem gd_J {c0 c1 : Cond} {own : String} {idx : Nat} {y : MethodName} (h1 : Cond.methodLink own idx y ∈ wT) (h2 : Cond.static y ∈ wT) (h4 : Cond.initialized y.cls ∈ wT) (h5 : c1 ∈ wT) : GoodIn (c0 :: wT) (va_wsS own idx y (c1 :: wT)) := by
  intro w hw
  unfold va_wsS at hw
  rcases List.mem_append.mp hw with hw | hw
  · simp only [List.mem_cons, List.not_mem_nil, or_false] at hw
    rcases hw with rfl | rfl | rfl
    · exact gd_in h1
    · exact gd_in h2
    · exact gd_in h4
  · exact gd_0 h5 w hw
end
section
/-! One memory by NAMES: a cell has a kind and a number (k, i); ad says where it lies, G what it holds. The kit's pool rows below, nothing of lists above. -/
section NHeap
variable {p : Program} {l : Launch} {e : Env} {R : Room} {s : State} {m : MethodId} {args : Array Value} {below : List Frame} {meth : Method} {c : Code} {H : Heap} {locs : List Loc} {cells slots : Nat} {Q : State → Prop}
variable {cc : ByteArray} {pc : Nat} {ls : Array Slot} {rest : List Value} {D : va_G} {cl : List vw_C} {A : Nat → Prop} {tys : List (ClassId × FieldType)} {H0 : Heap} {ad : Nat → Nat → Nat} {G G' : Nat → Nat → Option va_E}
/-- the heap holds G at the addresses ad; names that are alive lie apart -/
def nh_M (D : va_G) (cl : List vw_C) (A : Nat → Prop) (ad : Nat → Nat → Nat) (G : Nat → Nat → Option va_E) (H : Heap) : Prop :=
  ∃ (L : List Nat) (f : Nat → va_E), va_P D cl (va_pl L f) H ∧ va_D A (va_pl L f) ∧
    (∀ (k i : Nat) (x : va_E), G k i = some x → ad k i ∈ L ∧ f (ad k i) = x) ∧
    (∀ (k i k' i' : Nat) (x x' : va_E), G k i = some x → G k' i' = some x' → ad k i = ad k' i' → k = k' ∧ i = i')
theorem nh_at (h : nh_M D cl A ad G H) {k i : Nat} {x : va_E} (hg : G k i = some x) : ∃ (ws : va_W) (q0 : Nat), va_P D cl ws H ∧ ws[q0]? = some (ad k i, x) := by
  obtain ⟨L, f, hP, hD, h1, h2⟩ := h
  obtain ⟨m1, m2⟩ := h1 k i x hg
  obtain ⟨q0, hq⟩ := va_pl_get (X := []) (f := f) m1
  rw [m2] at hq
  exact ⟨va_pl L f, q0, hP, hq⟩
/-- one content changes -/
theorem nh_set (h : nh_M D cl A ad G H) {k i : Nat} {x x' : va_E} (hg : G k i = some x) (hG : ∀ a b : Nat, G' a b = if a = k ∧ b = i then some x' else G a b) :
    ∃ (ws : va_W) (q0 : Nat), va_P D cl ws H ∧ va_D A ws ∧ ws[q0]? = some (ad k i, x) ∧ (∀ (k2 i2 : Nat) (y : va_E), G k2 i2 = some y → ∃ qk : Nat, ws[qk]? = some (ad k2 i2, y)) ∧ ∀ H1 : Heap, va_P D cl (ws.set q0 (ad k i, x')) H1 → va_D A (ws.set q0 (ad k i, x')) → nh_M D cl A ad G' H1 := by
  obtain ⟨L, f, hP, hD, h1, h2⟩ := h
  obtain ⟨m1, m2⟩ := h1 k i x hg
  obtain ⟨q0, hq⟩ := va_pl_get (X := []) (f := f) m1
  have e1 : (va_pl L f).set q0 (ad k i, x') = va_pl L (va_up f (ad k i) x') := va_pl_set (X := []) hD m1 hq
  have hq' : (va_pl L f)[q0]? = some (ad k i, x) := by rw [← m2]; exact hq
  refine ⟨va_pl L f, q0, hP, hD, hq', fun k2 i2 y hy => ?_, fun H1 hP1 hD1 => ?_⟩
  · obtain ⟨n1, n2⟩ := h1 k2 i2 y hy
    obtain ⟨qk, hk⟩ := va_pl_get (X := []) (f := f) n1
    rw [n2] at hk
    exact ⟨qk, hk⟩
  rw [e1] at hP1 hD1
  have back : ∀ (a b : Nat) (y : va_E), G' a b = some y → ∃ z, G a b = some z := by
    intro a b y hy
    rw [hG] at hy
    by_cases hab : a = k ∧ b = i
    · obtain ⟨rfl, rfl⟩ := hab
      exact ⟨x, hg⟩
    · rw [if_neg hab] at hy
      exact ⟨y, hy⟩
  refine ⟨L, _, hP1, hD1, fun a b y hy => ?_, fun a b a' b' y y' hy hy' he => ?_⟩
  · rw [hG] at hy
    by_cases hab : a = k ∧ b = i
    · rw [if_pos hab] at hy
      obtain ⟨rfl, rfl⟩ := hab
      cases hy
      exact ⟨m1, va_up_self _ _ _⟩
    · rw [if_neg hab] at hy
      obtain ⟨n1, n2⟩ := h1 a b y hy
      exact ⟨n1, by rw [va_up_ne _ _ (fun q => hab (h2 a b k i y x hy hg q)), n2]⟩
  · obtain ⟨z, hz⟩ := back a b y hy
    obtain ⟨z', hz'⟩ := back a' b' y' hy'
    exact h2 a b a' b' z z' hz hz' he
/-- a new cell gets a name that was free -/
def nh_ad (ad : Nat → Nat → Nat) (k i q : Nat) : Nat → Nat → Nat := fun a b => if a = k ∧ b = i then q else ad a b
theorem nh_ad_new (ad : Nat → Nat → Nat) (k i q : Nat) : nh_ad ad k i q k i = q := by simp [nh_ad]
theorem nh_ad_old (ad : Nat → Nat → Nat) {k i q a b : Nat} (h : ¬ (a = k ∧ b = i)) : nh_ad ad k i q a b = ad a b := by simp [nh_ad, h]
theorem nh_push (h : nh_M D cl A ad G H) {k i : Nat} {x : va_E} (hg : G k i = none) (hG : ∀ a b : Nat, G' a b = if a = k ∧ b = i then some x else G a b) :
    ∃ ws : va_W, va_P D cl ws H ∧ va_D A ws ∧ ∀ (q : Nat) (H1 : Heap), va_P D cl (ws ++ [(q, x)]) H1 → va_D A (ws ++ [(q, x)]) → nh_M D cl A (nh_ad ad k i q) G' H1 := by
  obtain ⟨L, f, hP, hD, h1, h2⟩ := h
  refine ⟨va_pl L f, hP, hD, fun q H1 hP1 hD1 => ?_⟩
  have hq : q ∉ L := va_pl_fresh2 (X := []) hD1
  rw [va_pl_push hq] at hP1 hD1
  refine ⟨L ++ [q], _, hP1, hD1, fun a b y hy => ?_, fun a b a' b' y y' hy hy' he => ?_⟩
  · rw [hG] at hy
    by_cases hab : a = k ∧ b = i
    · rw [if_pos hab] at hy
      obtain ⟨rfl, rfl⟩ := hab
      cases hy
      rw [nh_ad_new]
      exact ⟨List.mem_append_right _ List.mem_cons_self, va_up_self _ _ _⟩
    · rw [if_neg hab] at hy
      obtain ⟨n1, n2⟩ := h1 a b y hy
      rw [nh_ad_old ad hab]
      exact ⟨List.mem_append_left _ n1, by rw [va_up_ne f x (show ad a b ≠ q from fun z => hq (z ▸ n1)), n2]⟩
  · have old : ∀ (a b : Nat) (y : va_E), G' a b = some y → ¬ (a = k ∧ b = i) → G a b = some y ∧ ad a b ∈ L := by
      intro a b y hy hab
      rw [hG, if_neg hab] at hy
      exact ⟨hy, (h1 a b y hy).1⟩
    by_cases hab : a = k ∧ b = i <;> by_cases hab' : a' = k ∧ b' = i
    · exact ⟨hab.1.trans hab'.1.symm, hab.2.trans hab'.2.symm⟩
    · obtain ⟨-, n1⟩ := old a' b' y' hy' hab'
      rw [nh_ad_old ad hab', hab.1, hab.2, nh_ad_new] at he
      exact absurd n1 (he ▸ hq)
    · obtain ⟨-, n1⟩ := old a b y hy hab
      rw [nh_ad_old ad hab, hab'.1, hab'.2, nh_ad_new] at he
      exact absurd n1 (he ▸ hq)
    · rw [nh_ad_old ad hab, nh_ad_old ad hab'] at he
      exact h2 a b a' b' y y' (old a b y hy hab).1 (old a' b' y' hy' hab').1 he
theorem nh_M.kept {H1 : Heap} (h : nh_M D cl A ad G H) (hk : ∀ q : Nat, A q → H1[q]? = H[q]?) : nh_M D cl A ad G H1 := by
  obtain ⟨L, f, hP, hD, h1, h2⟩ := h
  exact ⟨L, f, hP.kept (fun k q hq => hk q.1 (hD.2 k q hq)), hD, h1, h2⟩
theorem nh_M.to (h : nh_M D cl A ad G H) (hG : ∀ a b : Nat, G' a b = G a b) : nh_M D cl A ad G' H := by
  have : G' = G := by funext a b; exact hG a b
  rw [this]; exact h
/-- an array's class has one number -/
theorem nh_one {i j : Nat} {c1 c2 : ClassId} {ty : FieldType} (hK : va_K D cl tys s) (h1 : tys[i]? = some (c1, ty)) (h2 : tys[j]? = some (c2, ty)) : c1 = c2 := by
  have a1 := (hK.2 i _ h1).2
  have a2 := (hK.2 j _ h2).2
  cases ty with
  | object C =>
    obtain ⟨_, _, -, -, -, b1⟩ := a1
    obtain ⟨_, _, -, -, -, b2⟩ := a2
    exact Option.some.inj (b1.symm.trans b2)
  | _ => exact Option.some.inj (Eq.trans (Eq.symm a1) a2)
end NHeap
end
section
/-! The memory read by fields: int cells I kind number place, long cells J, references in arrays P; a shape says what a name is. -/
abbrev nf_F : Type := Nat × Nat
abbrev nf_O : Type := (Nat × List nf_F) ⊕ (ClassId × Nat × Nat)
abbrev nf_I : Type := Nat → Nat → Nat → Int32
abbrev nf_J : Type := Nat → Nat → Nat → Int64
abbrev nf_P : Type := Nat → Nat → Nat → Option (Nat × Nat)
abbrev nf_H : Type := Nat → Nat → Option nf_O
abbrev nf_A : Type := Nat → Nat → Nat
def nf_v (ad : nf_A) (I : nf_I) (J : nf_J) (k i n : Nat) (f : nf_F) : Value := match f.1 with
  | 0 => .int (I k i n)
  | 1 => .long (J k i n)
  | 2 => .ref (ad f.2 i)
  | _ => .null
def nf_fs (ad : nf_A) (I : nf_I) (J : nf_J) (k i : Nat) : Nat → List nf_F → List Value
  | _, [] => []
  | n, f :: fs => nf_v ad I J k i n f :: nf_fs ad I J k i (n + 1) fs
def nf_rf (ad : nf_A) (P : nf_P) (k i : Nat) : Nat → Option Nat := fun j => (P k i j).map (fun q => ad q.1 q.2)
def nf_c (ad : nf_A) (I : nf_I) (J : nf_J) (P : nf_P) (k i : Nat) (s : nf_O) : va_E := match s with
  | .inl o => .inr (o.1, nf_fs ad I J k i 0 o.2)
  | .inr (cA, n, 0) => .inl (cA, n, .inl (I k i))
  | .inr (cA, n, 1) => .inl (cA, n, .inr (.inl (J k i)))
  | .inr (cA, n, _) => .inl (cA, n, .inr (.inr (.inr (.inr (nf_rf ad P k i)))))
def nf_G (sh : nf_H) (ad : nf_A) (I : nf_I) (J : nf_J) (P : nf_P) : Nat → Nat → Option va_E := fun k i => (sh k i).map (nf_c ad I J P k i)
/-- the cell (k, i) of shape s refers to q -/
def nf_re (P : nf_P) (k i : Nat) (s : nf_O) (q : Nat × Nat) : Prop := match s with
  | .inl o => ∃ f ∈ o.2, f.1 = 2 ∧ q = (f.2, i)
  | .inr _ => ∃ j, P k i j = some q
def nf_ok (sh : nf_H) (P : nf_P) : Prop := ∀ (a b : Nat) (s : nf_O), sh a b = some s → ∀ q : Nat × Nat, nf_re P a b s q → ∃ s', sh q.1 q.2 = some s'
def nf_iu (I : nf_I) (k i n : Nat) (v : Int32) : nf_I := fun a b c => if a = k ∧ b = i ∧ c = n then v else I a b c
def nf_ju (J : nf_J) (k i n : Nat) (v : Int64) : nf_J := fun a b c => if a = k ∧ b = i ∧ c = n then v else J a b c
def nf_pu (P : nf_P) (k i n : Nat) (v : Option (Nat × Nat)) : nf_P := fun a b c => if a = k ∧ b = i ∧ c = n then v else P a b c
def nf_iz (I : nf_I) (k i : Nat) : nf_I := fun a b c => if a = k ∧ b = i then 0 else I a b c
def nf_jz (J : nf_J) (k i : Nat) : nf_J := fun a b c => if a = k ∧ b = i then 0 else J a b c
def nf_pz (P : nf_P) (k i : Nat) : nf_P := fun a b c => if a = k ∧ b = i then none else P a b c
def nf_su (sh : nf_H) (k i : Nat) (x : nf_O) : nf_H := fun a b => if a = k ∧ b = i then some x else sh a b
theorem nf_iu_s (I : nf_I) (k i n : Nat) (v : Int32) : nf_iu I k i n v k i n = v := by simp [nf_iu]
theorem nf_ju_s (J : nf_J) (k i n : Nat) (v : Int64) : nf_ju J k i n v k i n = v := by simp [nf_ju]
theorem nf_iu_n (I : nf_I) {k i n a b c : Nat} (v : Int32) (h : ¬ (a = k ∧ b = i ∧ c = n)) : nf_iu I k i n v a b c = I a b c := by simp only [nf_iu, if_neg h]
theorem nf_ju_n (J : nf_J) {k i n a b c : Nat} (v : Int64) (h : ¬ (a = k ∧ b = i ∧ c = n)) : nf_ju J k i n v a b c = J a b c := by simp only [nf_ju, if_neg h]
theorem nf_pu_n (P : nf_P) {k i n a b c : Nat} (v : Option (Nat × Nat)) (h : ¬ (a = k ∧ b = i ∧ c = n)) : nf_pu P k i n v a b c = P a b c := by simp only [nf_pu, if_neg h]
theorem nf_su_s (sh : nf_H) (k i : Nat) (x : nf_O) : nf_su sh k i x k i = some x := by simp [nf_su]
theorem nf_su_n (sh : nf_H) {k i a b : Nat} (x : nf_O) (h : ¬ (a = k ∧ b = i)) : nf_su sh k i x a b = sh a b := by simp only [nf_su, if_neg h]
section NField
variable {p : Program} {l : Launch} {e : Env} {R : Room} {s : State} {m : MethodId} {args : Array Value} {below : List Frame} {meth : Method} {c : Code} {H : Heap} {locs : List Loc} {cells slots : Nat} {Q : State → Prop}
variable {cc : ByteArray} {pc : Nat} {ls : Array Slot} {rest : List Value} {D : va_G} {cl : List vw_C} {A : Nat → Prop} {tys : List (ClassId × FieldType)} {H0 : Heap} {ad ad' : nf_A} {sh : nf_H} {I I' : nf_I} {J J' : nf_J} {P P' : nf_P} {k i : Nat}
theorem nf_fs_get : ∀ (fs : List nf_F) (m n : Nat), (nf_fs ad I J k i m fs)[n]? = (fs[n]?).map (nf_v ad I J k i (m + n))
  | [], m, n => by simp [nf_fs]
  | f :: fs, m, 0 => by simp [nf_fs]
  | f :: fs, m, n + 1 => by
    have h := nf_fs_get fs (m + 1) n
    simp only [nf_fs, List.getElem?_cons_succ]
    rw [h, show m + 1 + n = m + (n + 1) by omega]
theorem nf_fs_len : ∀ (fs : List nf_F) (m : Nat), (nf_fs ad I J k i m fs).length = fs.length
  | [], m => rfl
  | f :: fs, m => by simp [nf_fs, nf_fs_len fs (m + 1)]
theorem nf_c_congr (s : nf_O) (hI : ∀ c, I' k i c = I k i c) (hJ : ∀ c, J' k i c = J k i c) (hP : ∀ c, P' k i c = P k i c) (had : ∀ q : Nat × Nat, nf_re P k i s q → ad' q.1 q.2 = ad q.1 q.2) : nf_c ad' I' J' P' k i s = nf_c ad I J P k i s := by
  match s with
  | .inl (ci, fs) =>
    have h : nf_fs ad' I' J' k i 0 fs = nf_fs ad I J k i 0 fs := by
      apply List.ext_getElem?
      intro n
      rw [nf_fs_get, nf_fs_get]
      cases hf : fs[n]? with
      | none => rfl
      | some f =>
        obtain ⟨t, z⟩ := f
        have hm : (t, z) ∈ fs := List.mem_of_getElem? hf
        match t with
        | 0 => simp [nf_v, hI]
        | 1 => simp [nf_v, hJ]
        | 2 =>
          have := had (z, i) ⟨(2, z), hm, rfl, rfl⟩
          simp only [Option.map_some, nf_v]
          rw [this]
        | t + 3 => rfl
    show Sum.inr (ci, nf_fs ad' I' J' k i 0 fs) = _
    rw [h]
    rfl
  | .inr (cA, n, 0) =>
    show Sum.inl (cA, n, Sum.inl (I' k i)) = _
    rw [show I' k i = I k i from funext hI]
    rfl
  | .inr (cA, n, 1) =>
    show Sum.inl (cA, n, Sum.inr (Sum.inl (J' k i))) = _
    rw [show J' k i = J k i from funext hJ]
    rfl
  | .inr (cA, n, t + 2) =>
    have h : nf_rf ad' P' k i = nf_rf ad P k i := by
      funext j
      unfold nf_rf
      rw [hP]
      cases hq : P k i j with
      | none => rfl
      | some q =>
        simp only [Option.map_some]
        rw [had q ⟨j, hq⟩]
    show Sum.inl (cA, n, Sum.inr (Sum.inr (Sum.inr (Sum.inr (nf_rf ad' P' k i))))) = _
    rw [h]
    rfl
theorem nf_G_at {x : nf_O} (hg : sh k i = some x) : nf_G sh ad I J P k i = some (nf_c ad I J P k i x) := by
  unfold nf_G
  rw [hg]
  rfl
theorem nf_G_off {k i a b : Nat} (hI : ∀ c, I' a b c = I a b c) (hJ : ∀ c, J' a b c = J a b c) (hP : ∀ c, P' a b c = P a b c) : nf_G sh ad I' J' P' a b = nf_G sh ad I J P a b := by
  unfold nf_G
  cases sh a b with
  | none => rfl
  | some x =>
    simp only [Option.map_some]
    rw [nf_c_congr x hI hJ hP (fun _ _ => rfl)]
theorem nf_set_i {ci n z : Nat} {fs : List nf_F} {v : Int32} (hg : sh k i = some (.inl (ci, fs))) (hf : fs[n]? = some (0, z)) : ∀ a b : Nat, nf_G sh ad (nf_iu I k i n v) J P a b = if a = k ∧ b = i then some (.inr (ci, (nf_fs ad I J k i 0 fs).set n (.int v))) else nf_G sh ad I J P a b := by
  intro a b
  by_cases hab : a = k ∧ b = i
  · obtain ⟨rfl, rfl⟩ := hab
    rw [if_pos ⟨rfl, rfl⟩, nf_G_at hg]
    have h : nf_fs ad (nf_iu I a b n v) J a b 0 fs = (nf_fs ad I J a b 0 fs).set n (.int v) := by
      apply List.ext_getElem?
      intro q
      rw [nf_fs_get, List.getElem?_set]
      by_cases hq : n = q
      · subst hq
        have hlt : n < fs.length := (List.getElem?_eq_some_iff.mp hf).1
        rw [if_pos rfl, if_pos (by rw [nf_fs_len]; exact hlt), hf]
        simp [nf_v, nf_iu]
      · rw [if_neg hq, nf_fs_get]
        cases hf2 : fs[q]? with
        | none => rfl
        | some f =>
          obtain ⟨t, y⟩ := f
          match t with
          | 0 =>
            have hne : ¬ (a = a ∧ b = b ∧ 0 + q = n) := fun h => hq (by omega)
            simp only [Option.map_some, nf_v]
            rw [nf_iu_n I v hne]
          | 1 => rfl
          | 2 => rfl
          | t + 3 => rfl
    show some (Sum.inr (ci, nf_fs ad (nf_iu I a b n v) J a b 0 fs)) = _
    rw [h]
  · rw [if_neg hab]
    exact nf_G_off (k := k) (i := i) (fun c => nf_iu_n I v (fun h => hab ⟨h.1, h.2.1⟩)) (fun _ => rfl) (fun _ => rfl)
theorem nf_set_l {ci n z : Nat} {fs : List nf_F} {v : Int64} (hg : sh k i = some (.inl (ci, fs))) (hf : fs[n]? = some (1, z)) : ∀ a b : Nat, nf_G sh ad I (nf_ju J k i n v) P a b = if a = k ∧ b = i then some (.inr (ci, (nf_fs ad I J k i 0 fs).set n (.long v))) else nf_G sh ad I J P a b := by
  intro a b
  by_cases hab : a = k ∧ b = i
  · obtain ⟨rfl, rfl⟩ := hab
    rw [if_pos ⟨rfl, rfl⟩, nf_G_at hg]
    have h : nf_fs ad I (nf_ju J a b n v) a b 0 fs = (nf_fs ad I J a b 0 fs).set n (.long v) := by
      apply List.ext_getElem?
      intro q
      rw [nf_fs_get, List.getElem?_set]
      by_cases hq : n = q
      · subst hq
        have hlt : n < fs.length := (List.getElem?_eq_some_iff.mp hf).1
        rw [if_pos rfl, if_pos (by rw [nf_fs_len]; exact hlt), hf]
        simp [nf_v, nf_ju]
      · rw [if_neg hq, nf_fs_get]
        cases hf2 : fs[q]? with
        | none => rfl
        | some f =>
          obtain ⟨t, y⟩ := f
          match t with
          | 0 => rfl
          | 1 =>
            have hne : ¬ (a = a ∧ b = b ∧ 0 + q = n) := fun h => hq (by omega)
            simp only [Option.map_some, nf_v]
            rw [nf_ju_n J v hne]
          | 2 => rfl
          | t + 3 => rfl
    show some (Sum.inr (ci, nf_fs ad I (nf_ju J a b n v) a b 0 fs)) = _
    rw [h]
  · rw [if_neg hab]
    exact nf_G_off (k := k) (i := i) (fun _ => rfl) (fun c => nf_ju_n J v (fun h => hab ⟨h.1, h.2.1⟩)) (fun _ => rfl)
theorem nf_set_ia {cA : ClassId} {n j : Nat} {v : Int32} (hg : sh k i = some (.inr (cA, n, 0))) : ∀ a b : Nat, nf_G sh ad (nf_iu I k i j v) J P a b = if a = k ∧ b = i then some (.inl (cA, n, .inl (upd (I k i) j v))) else nf_G sh ad I J P a b := by
  intro a b
  by_cases hab : a = k ∧ b = i
  · obtain ⟨rfl, rfl⟩ := hab
    rw [if_pos ⟨rfl, rfl⟩, nf_G_at hg]
    have h : nf_iu I a b j v a b = upd (I a b) j v := by
      funext q
      by_cases hq : q = j
      · subst hq
        rw [nf_iu_s, pk_us]
      · rw [nf_iu_n I v (fun h => hq h.2.2), pk_un hq]
    show some (Sum.inl (cA, n, Sum.inl (nf_iu I a b j v a b))) = _
    rw [h]
  · rw [if_neg hab]
    exact nf_G_off (k := k) (i := i) (fun c => nf_iu_n I v (fun h => hab ⟨h.1, h.2.1⟩)) (fun _ => rfl) (fun _ => rfl)
theorem nf_set_la {cA : ClassId} {n j : Nat} {v : Int64} (hg : sh k i = some (.inr (cA, n, 1))) : ∀ a b : Nat, nf_G sh ad I (nf_ju J k i j v) P a b = if a = k ∧ b = i then some (.inl (cA, n, .inr (.inl (vp_updL (J k i) j v)))) else nf_G sh ad I J P a b := by
  intro a b
  by_cases hab : a = k ∧ b = i
  · obtain ⟨rfl, rfl⟩ := hab
    rw [if_pos ⟨rfl, rfl⟩, nf_G_at hg]
    have h : nf_ju J a b j v a b = vp_updL (J a b) j v := by
      funext q
      by_cases hq : q = j
      · subst hq
        rw [nf_ju_s, pk_uLs]
      · rw [nf_ju_n J v (fun h => hq h.2.2), pk_uLn hq]
    show some (Sum.inl (cA, n, Sum.inr (Sum.inl (nf_ju J a b j v a b)))) = _
    rw [h]
  · rw [if_neg hab]
    exact nf_G_off (k := k) (i := i) (fun _ => rfl) (fun c => nf_ju_n J v (fun h => hab ⟨h.1, h.2.1⟩)) (fun _ => rfl)
theorem nf_set_pa {cA : ClassId} {n j k2 i2 : Nat} (hg : sh k i = some (.inr (cA, n, 2))) : ∀ a b : Nat, nf_G sh ad I J (nf_pu P k i j (some (k2, i2))) a b = if a = k ∧ b = i then some (.inl (cA, n, .inr (.inr (.inr (.inr (va_up (nf_rf ad P k i) j (some (ad k2 i2)))))))) else nf_G sh ad I J P a b := by
  intro a b
  by_cases hab : a = k ∧ b = i
  · obtain ⟨rfl, rfl⟩ := hab
    rw [if_pos ⟨rfl, rfl⟩, nf_G_at hg]
    have h : nf_rf ad (nf_pu P a b j (some (k2, i2))) a b = va_up (nf_rf ad P a b) j (some (ad k2 i2)) := by
      funext q
      by_cases hq : q = j
      · subst hq
        rw [va_up_self]
        simp [nf_rf, nf_pu]
      · rw [va_up_ne _ _ hq]
        simp only [nf_rf]
        rw [nf_pu_n P _ (fun h => hq h.2.2)]
    show some (Sum.inl (cA, n, Sum.inr (Sum.inr (Sum.inr (Sum.inr (nf_rf ad (nf_pu P a b j (some (k2, i2))) a b)))))) = _
    rw [h]
  · rw [if_neg hab]
    exact nf_G_off (k := k) (i := i) (fun _ => rfl) (fun _ => rfl) (fun c => nf_pu_n P _ (fun h => hab ⟨h.1, h.2.1⟩))
/-- the memory, all of it from Bs on, since H0 -/
def nf_M (D : va_G) (cl : List vw_C) (Bs : Nat) (sh : nf_H) (ad : nf_A) (I : nf_I) (J : nf_J) (P : nf_P) (H0 H : Heap) (locs : List Loc) : Prop :=
  nh_M D cl (fun q => Bs ≤ q) ad (nf_G sh ad I J P) H ∧ nf_ok sh P ∧ va_S (fun q => Bs ≤ q) H0 H locs ∧ Bs ≤ H0.size
/-- what a method's walk stands on -/
abbrev nf_C (p : Program) (m : MethodId) (c : Code) (cc : ByteArray) (nL : Nat) (s : State) (args : Array Value) (Ts : List Cond) (own : String) (D : va_G) (cl : List vw_C) (tys : List (ClassId × FieldType)) : Prop := CallFix p m c cc nL s args Ts own ∧ va_K D cl tys s
variable {nL Bs N ci index n z : Nat} {Ts : List Cond} {own C : String} {T : u_T} {fs : List nf_F}
theorem nf_vget {f : nf_F} (hf : fs[n]? = some f) : (nf_fs ad I J k i 0 fs)[n]? = some (nf_v ad I J k i n f) := by
  rw [nf_fs_get, hf]
  simp
theorem nf_geti (hC : nf_C p m c cc nL s args Ts own D cl tys) (hin : ∀ w ∈ u_ws C T N, w ∈ Ts) (hM : nf_M D cl Bs sh ad I J P H0 H locs) (hg : sh k i = some (.inl (ci, fs))) (hc : cl[ci]? = some (C, T, N)) (n : Nat) (hn : n < N) (hlink : Cond.fieldLink own index (T n).1 (T n).2.1 (T n).2.2.1 ∈ Ts) (hf : fs[n]? = some (0, z)) (hdg : decode cc pc = .ok (.getfield index, 3))
    (kk : W p l e R s m args below meth c H locs cells slots Q (F0 m (pc + 3) ls (.int (I k i n) :: rest))) : W p l e R s m args below meth c H locs cells slots Q (F0 m pc ls (.ref (ad k i) :: rest)) := by
  obtain ⟨⟨hx, hb, hml, hown, hts⟩, hK⟩ := hC
  obtain ⟨ws, q0, hP, hq⟩ := nh_at hM.1 (nf_G_at hg)
  exact va_get hx hb hts hin hown hK hP q0 hq hc n hn (hts _ hlink) (fun _ h => h) (nf_vget hf) hdg kk
theorem nf_getl (hC : nf_C p m c cc nL s args Ts own D cl tys) (hin : ∀ w ∈ u_ws C T N, w ∈ Ts) (hM : nf_M D cl Bs sh ad I J P H0 H locs) (hg : sh k i = some (.inl (ci, fs))) (hc : cl[ci]? = some (C, T, N)) (n : Nat) (hn : n < N) (hlink : Cond.fieldLink own index (T n).1 (T n).2.1 (T n).2.2.1 ∈ Ts) (hf : fs[n]? = some (1, z)) (hdg : decode cc pc = .ok (.getfield index, 3))
    (kk : W p l e R s m args below meth c H locs cells slots Q (F0 m (pc + 3) ls (.long (J k i n) :: rest))) : W p l e R s m args below meth c H locs cells slots Q (F0 m pc ls (.ref (ad k i) :: rest)) := by
  obtain ⟨⟨hx, hb, hml, hown, hts⟩, hK⟩ := hC
  obtain ⟨ws, q0, hP, hq⟩ := nh_at hM.1 (nf_G_at hg)
  exact va_get hx hb hts hin hown hK hP q0 hq hc n hn (hts _ hlink) (fun _ h => h) (nf_vget hf) hdg kk
theorem nf_getr (hC : nf_C p m c cc nL s args Ts own D cl tys) (hin : ∀ w ∈ u_ws C T N, w ∈ Ts) (hM : nf_M D cl Bs sh ad I J P H0 H locs) (hg : sh k i = some (.inl (ci, fs))) (hc : cl[ci]? = some (C, T, N)) (n : Nat) (hn : n < N) (hlink : Cond.fieldLink own index (T n).1 (T n).2.1 (T n).2.2.1 ∈ Ts) (hf : fs[n]? = some (2, z)) (hdg : decode cc pc = .ok (.getfield index, 3))
    (kk : W p l e R s m args below meth c H locs cells slots Q (F0 m (pc + 3) ls (.ref (ad z i) :: rest))) : W p l e R s m args below meth c H locs cells slots Q (F0 m pc ls (.ref (ad k i) :: rest)) := by
  obtain ⟨⟨hx, hb, hml, hown, hts⟩, hK⟩ := hC
  obtain ⟨ws, q0, hP, hq⟩ := nh_at hM.1 (nf_G_at hg)
  exact va_get hx hb hts hin hown hK hP q0 hq hc n hn (hts _ hlink) (fun _ h => h) (nf_vget hf) hdg kk
theorem nf_puti (hC : nf_C p m c cc nL s args Ts own D cl tys) (hin : ∀ w ∈ u_ws C T N, w ∈ Ts) (ty0 : Nat → FieldType) (hty : ∀ k, k < N → parseFieldDescriptor (T k).2.2.1 = some (ty0 k)) (hnm : ∀ a, a < N → ∀ b, b < N → a ≠ b → (T a).2.1 ≠ (T b).2.1) (hM : nf_M D cl Bs sh ad I J P H0 H locs) (hg : sh k i = some (.inl (ci, fs))) (hc : cl[ci]? = some (C, T, N)) (n : Nat) (hn : n < N) (hlink : Cond.fieldLink own index (T n).1 (T n).2.1 (T n).2.2.1 ∈ Ts) (hfin : (T n).2.2.2 = false) (hd : parseFieldDescriptor (T n).2.2.1 = some .int) (hf : fs[n]? = some (0, z)) {v : Int32} (hdg : decode cc pc = .ok (.putfield index, 3))
    (kk : ∀ (H1 : Heap) (locs1 : List Loc), nf_M D cl Bs sh ad (nf_iu I k i n v) J P H0 H1 locs1 → W p l e R s m args below meth c H1 locs1 cells slots Q (F0 m (pc + 3) ls rest)) : W p l e R s m args below meth c H locs cells slots Q (F0 m pc ls (.int v :: .ref (ad k i) :: rest)) := by
  obtain ⟨⟨hx, hb, hml, hown, hts⟩, hK⟩ := hC
  obtain ⟨hM, hok, hS, hB⟩ := hM
  obtain ⟨ws, q0, hP, hD, hq, -, hset⟩ := nh_set hM (nf_G_at hg) (nf_set_i (ad := ad) (I := I) (J := J) (P := P) (v := v) hg hf)
  exact va_put hx hb hts hin ty0 hty hnm hown hK hP hD hS q0 hq hc n hn (hts _ hlink) (fun _ h => h) hfin hd rfl rfl (by rw [nf_fs_len]; exact (List.getElem?_eq_some_iff.mp hf).1) hdg (fun H1 locs1 a1 a2 a3 => kk H1 locs1 ⟨hset H1 a1 a2, hok, a3, hB⟩)
theorem nf_putl (hC : nf_C p m c cc nL s args Ts own D cl tys) (hin : ∀ w ∈ u_ws C T N, w ∈ Ts) (ty0 : Nat → FieldType) (hty : ∀ k, k < N → parseFieldDescriptor (T k).2.2.1 = some (ty0 k)) (hnm : ∀ a, a < N → ∀ b, b < N → a ≠ b → (T a).2.1 ≠ (T b).2.1) (hM : nf_M D cl Bs sh ad I J P H0 H locs) (hg : sh k i = some (.inl (ci, fs))) (hc : cl[ci]? = some (C, T, N)) (n : Nat) (hn : n < N) (hlink : Cond.fieldLink own index (T n).1 (T n).2.1 (T n).2.2.1 ∈ Ts) (hfin : (T n).2.2.2 = false) (hd : parseFieldDescriptor (T n).2.2.1 = some .long) (hf : fs[n]? = some (1, z)) {v : Int64} (hdg : decode cc pc = .ok (.putfield index, 3))
    (kk : ∀ (H1 : Heap) (locs1 : List Loc), nf_M D cl Bs sh ad I (nf_ju J k i n v) P H0 H1 locs1 → W p l e R s m args below meth c H1 locs1 cells slots Q (F0 m (pc + 3) ls rest)) : W p l e R s m args below meth c H locs cells slots Q (F0 m pc ls (.long v :: .ref (ad k i) :: rest)) := by
  obtain ⟨⟨hx, hb, hml, hown, hts⟩, hK⟩ := hC
  obtain ⟨hM, hok, hS, hB⟩ := hM
  obtain ⟨ws, q0, hP, hD, hq, -, hset⟩ := nh_set hM (nf_G_at hg) (nf_set_l (ad := ad) (I := I) (J := J) (P := P) (v := v) hg hf)
  exact va_put hx hb hts hin ty0 hty hnm hown hK hP hD hS q0 hq hc n hn (hts _ hlink) (fun _ h => h) hfin hd rfl rfl (by rw [nf_fs_len]; exact (List.getElem?_eq_some_iff.mp hf).1) hdg (fun H1 locs1 a1 a2 a3 => kk H1 locs1 ⟨hset H1 a1 a2, hok, a3, hB⟩)
end NField
end
section
/-! Rows over the memory by fields: arrays, new cells, a method's start and end, calls. -/
section NRows
variable {p : Program} {l : Launch} {e : Env} {R : Room} {s : State} {m : MethodId} {args : Array Value} {below : List Frame} {meth : Method} {c : Code} {H : Heap} {locs : List Loc} {cells slots : Nat} {Q : State → Prop}
variable {cc : ByteArray} {pc : Nat} {ls : Array Slot} {rest : List Value} {D : va_G} {cl : List vw_C} {tys : List (ClassId × FieldType)} {H0 : Heap} {ad ad' : nf_A} {sh : nf_H} {I I' I1 : nf_I} {J J' J1 : nf_J} {P P' P1 : nf_P} {k i : Nat}
variable {nL Bs N ci index n z : Nat} {Ts : List Cond} {own C : String} {T : u_T} {fs : List nf_F} {cA : ClassId}
theorem nf_iald (hC : nf_C p m c cc nL s args Ts own D cl tys) (hM : nf_M D cl Bs sh ad I J P H0 H locs) (t0 : Nat) (hg : sh k i = some (.inr (cA, n, 0))) (ht : tys[t0]? = some (cA, .int)) {j : Int32} (jn : Nat) (hj : j = nI jn) (hlt : jn < n) (hn : n < 2 ^ 31) (hdg : decode cc pc = .ok (.iaload, 1))
    (kk : W p l e R s m args below meth c H locs cells slots Q (F0 m (pc + 1) ls (.int (I k i jn) :: rest))) : W p l e R s m args below meth c H locs cells slots Q (F0 m pc ls (.int j :: .ref (ad k i) :: rest)) := by
  obtain ⟨⟨hx, hb, hml, hown, hts⟩, hK⟩ := hC
  obtain ⟨ws, q0, hP, hq⟩ := nh_at hM.1 (nf_G_at hg)
  have hcl : j.toNatClampNeg = jn := by rw [hj]; exact nI_clamp (by omega)
  refine va_iald hx hb hK hP q0 t0 hq ht (by rw [hj]; exact vp_in_nI hlt hn) hdg ?_
  rw [hcl]
  exact kk
theorem nf_lald (hC : nf_C p m c cc nL s args Ts own D cl tys) (hM : nf_M D cl Bs sh ad I J P H0 H locs) (t0 : Nat) (hg : sh k i = some (.inr (cA, n, 1))) (ht : tys[t0]? = some (cA, .long)) {j : Int32} (jn : Nat) (hj : j = nI jn) (hlt : jn < n) (hn : n < 2 ^ 31) (hdg : decode cc pc = .ok (.laload, 1))
    (kk : W p l e R s m args below meth c H locs cells slots Q (F0 m (pc + 1) ls (.long (J k i jn) :: rest))) : W p l e R s m args below meth c H locs cells slots Q (F0 m pc ls (.int j :: .ref (ad k i) :: rest)) := by
  obtain ⟨⟨hx, hb, hml, hown, hts⟩, hK⟩ := hC
  obtain ⟨ws, q0, hP, hq⟩ := nh_at hM.1 (nf_G_at hg)
  have hcl : j.toNatClampNeg = jn := by rw [hj]; exact nI_clamp (by omega)
  refine va_lald hx hb hK hP q0 t0 hq ht (by rw [hj]; exact vp_in_nI hlt hn) hdg ?_
  rw [hcl]
  exact kk
theorem nf_aald (hC : nf_C p m c cc nL s args Ts own D cl tys) (hM : nf_M D cl Bs sh ad I J P H0 H locs) (t0 : Nat) (hg : sh k i = some (.inr (cA, n, 2))) (ht : tys[t0]? = some (cA, .object C)) {j : Int32} (jn : Nat) (hj : j = nI jn) (hlt : jn < n) (hn : n < 2 ^ 31) {k2 i2 : Nat} (hp : P k i jn = some (k2, i2)) (hdg : decode cc pc = .ok (.aaload, 1))
    (kk : W p l e R s m args below meth c H locs cells slots Q (F0 m (pc + 1) ls (.ref (ad k2 i2) :: rest))) : W p l e R s m args below meth c H locs cells slots Q (F0 m pc ls (.int j :: .ref (ad k i) :: rest)) := by
  obtain ⟨⟨hx, hb, hml, hown, hts⟩, hK⟩ := hC
  obtain ⟨ws, q0, hP, hq⟩ := nh_at hM.1 (nf_G_at hg)
  have hcl : j.toNatClampNeg = jn := by rw [hj]; exact nI_clamp (by omega)
  refine va_aldq hx hb hK hP q0 t0 hq ht (by rw [hj]; exact vp_in_nI hlt hn) hdg ?_
  have hv : nf_rf ad P k i jn = some (ad k2 i2) := by unfold nf_rf; rw [hp]; rfl
  rw [hcl, hv]
  exact kk
theorem nf_iast (hC : nf_C p m c cc nL s args Ts own D cl tys) (hM : nf_M D cl Bs sh ad I J P H0 H locs) (t0 : Nat) (hg : sh k i = some (.inr (cA, n, 0))) (ht : tys[t0]? = some (cA, .int)) {j v : Int32} (jn : Nat) (hj : j = nI jn) (hlt : jn < n) (hn : n < 2 ^ 31) (hdg : decode cc pc = .ok (.iastore, 1))
    (kk : ∀ (H1 : Heap) (locs1 : List Loc), nf_M D cl Bs sh ad (nf_iu I k i jn v) J P H0 H1 locs1 → W p l e R s m args below meth c H1 locs1 cells slots Q (F0 m (pc + 1) ls rest)) : W p l e R s m args below meth c H locs cells slots Q (F0 m pc ls (.int v :: .int j :: .ref (ad k i) :: rest)) := by
  obtain ⟨⟨hx, hb, hml, hown, hts⟩, hK⟩ := hC
  obtain ⟨hM, hok, hS, hB⟩ := hM
  have hcl : j.toNatClampNeg = jn := by rw [hj]; exact nI_clamp (by omega)
  obtain ⟨ws, q0, hP, hD, hq, -, hset⟩ := nh_set hM (nf_G_at hg) (nf_set_ia (ad := ad) (I := I) (J := J) (P := P) (j := jn) (v := v) hg)
  exact va_iast hx hb hK hP hD hS q0 t0 hq ht (by rw [hj]; exact vp_in_nI hlt hn) hdg (fun H1 locs1 a1 a2 a3 => kk H1 locs1 ⟨hset H1 (by rw [← hcl]; exact a1) (by rw [← hcl]; exact a2), hok, a3, hB⟩)
theorem nf_last (hC : nf_C p m c cc nL s args Ts own D cl tys) (hM : nf_M D cl Bs sh ad I J P H0 H locs) (t0 : Nat) (hg : sh k i = some (.inr (cA, n, 1))) (ht : tys[t0]? = some (cA, .long)) {j : Int32} {v : Int64} (jn : Nat) (hj : j = nI jn) (hlt : jn < n) (hn : n < 2 ^ 31) (hdg : decode cc pc = .ok (.lastore, 1))
    (kk : ∀ (H1 : Heap) (locs1 : List Loc), nf_M D cl Bs sh ad I (nf_ju J k i jn v) P H0 H1 locs1 → W p l e R s m args below meth c H1 locs1 cells slots Q (F0 m (pc + 1) ls rest)) : W p l e R s m args below meth c H locs cells slots Q (F0 m pc ls (.long v :: .int j :: .ref (ad k i) :: rest)) := by
  obtain ⟨⟨hx, hb, hml, hown, hts⟩, hK⟩ := hC
  obtain ⟨hM, hok, hS, hB⟩ := hM
  have hcl : j.toNatClampNeg = jn := by rw [hj]; exact nI_clamp (by omega)
  obtain ⟨ws, q0, hP, hD, hq, -, hset⟩ := nh_set hM (nf_G_at hg) (nf_set_la (ad := ad) (I := I) (J := J) (P := P) (j := jn) (v := v) hg)
  exact va_last hx hb hK hP hD hS q0 t0 hq ht (by rw [hj]; exact vp_in_nI hlt hn) hdg (fun H1 locs1 a1 a2 a3 => kk H1 locs1 ⟨hset H1 (by rw [← hcl]; exact a1) (by rw [← hcl]; exact a2), hok, a3, hB⟩)
theorem nf_ok_pu {j k2 i2 : Nat} {x : nf_O} (hok : nf_ok sh P) (hv : sh k2 i2 = some x) : nf_ok sh (nf_pu P k i j (some (k2, i2))) := by
  intro a b s hs q hq
  match s with
  | .inl o => exact hok a b _ hs q hq
  | .inr o =>
    obtain ⟨y, hy⟩ := hq
    unfold nf_pu at hy
    split at hy
    · cases hy
      exact ⟨x, hv⟩
    · exact hok a b _ hs q ⟨y, hy⟩
theorem nf_aast (hC : nf_C p m c cc nL s args Ts own D cl tys) (hM : nf_M D cl Bs sh ad I J P H0 H locs) (t0 : Nat) (hg : sh k i = some (.inr (cA, n, 2))) {r : vw_C} (ht : tys[t0]? = some (cA, .object r.1)) {k2 i2 : Nat} (hv : sh k2 i2 = some (.inl (ci, fs))) (hc : cl[ci]? = some r) {j : Int32} (jn : Nat) (hj : j = nI jn) (hlt : jn < n) (hn : n < 2 ^ 31) (hdg : decode cc pc = .ok (.aastore, 1))
    (kk : ∀ (H1 : Heap) (locs1 : List Loc), nf_M D cl Bs sh ad I J (nf_pu P k i jn (some (k2, i2))) H0 H1 locs1 → W p l e R s m args below meth c H1 locs1 cells slots Q (F0 m (pc + 1) ls rest)) : W p l e R s m args below meth c H locs cells slots Q (F0 m pc ls (.ref (ad k2 i2) :: .int j :: .ref (ad k i) :: rest)) := by
  obtain ⟨⟨hx, hb, hml, hown, hts⟩, hK⟩ := hC
  obtain ⟨hM, hok, hS, hB⟩ := hM
  have hcl : j.toNatClampNeg = jn := by rw [hj]; exact nI_clamp (by omega)
  obtain ⟨ws, q0, hP, hD, hq, ho, hset⟩ := nh_set hM (nf_G_at hg) (nf_set_pa (ad := ad) (I := I) (J := J) (P := P) (j := jn) (k2 := k2) (i2 := i2) hg)
  obtain ⟨qk, hk⟩ := ho k2 i2 _ (nf_G_at hv)
  exact va_astq hx hb hK hP hD hS q0 t0 qk ci hq ht hk hc (by rw [hj]; exact vp_in_nI hlt hn) hdg (fun H1 locs1 a1 a2 a3 => kk H1 locs1 ⟨hset H1 (by rw [← hcl]; exact a1) (by rw [← hcl]; exact a2), nf_ok_pu hok hv, a3, hB⟩)
/-! new cells -/
def nf_dv (f : nf_F) : Value := match f.1 with
  | 0 => .int 0
  | 1 => .long 0
  | _ => .null
theorem nf_new_G {q : Nat} {x : nf_O} {E : va_E} (hok : nf_ok sh P) (hs : sh k i = none) (he : nf_c (nh_ad ad k i q) (nf_iz I k i) (nf_jz J k i) (nf_pz P k i) k i x = E) : ∀ a b : Nat, nf_G (nf_su sh k i x) (nh_ad ad k i q) (nf_iz I k i) (nf_jz J k i) (nf_pz P k i) a b = if a = k ∧ b = i then some E else nf_G sh ad I J P a b := by
  intro a b
  by_cases hab : a = k ∧ b = i
  · obtain ⟨rfl, rfl⟩ := hab
    rw [if_pos ⟨rfl, rfl⟩, nf_G_at (nf_su_s _ _ _ _), he]
  · rw [if_neg hab]
    unfold nf_G
    rw [nf_su_n _ _ hab]
    cases hsa : sh a b with
    | none => rfl
    | some y =>
      simp only [Option.map_some]
      rw [nf_c_congr (ad := ad) (I := I) (J := J) (P := P) y (fun c => by simp only [nf_iz, if_neg hab]) (fun c => by simp only [nf_jz, if_neg hab]) (fun c => by simp only [nf_pz, if_neg hab]) (fun q' hq' => ?_)]
      obtain ⟨s', hs'⟩ := hok a b y hsa q' hq'
      exact nh_ad_old ad (fun h => by rw [h.1, h.2, hs] at hs'; cases hs')
theorem nf_new_ok {x : nf_O} (hok : nf_ok sh P) (hs : sh k i = none) (hnr : ∀ q, ¬ nf_re (nf_pz P k i) k i x q) : nf_ok (nf_su sh k i x) (nf_pz P k i) := by
  intro a b s hsa q hq
  have up : ∀ (q : Nat × Nat) (s' : nf_O), sh q.1 q.2 = some s' → ∃ s'', nf_su sh k i x q.1 q.2 = some s'' := by
    intro q s' h
    by_cases hh : q.1 = k ∧ q.2 = i
    · exact ⟨x, by unfold nf_su; rw [if_pos hh]⟩
    · exact ⟨s', by rw [nf_su_n _ _ hh]; exact h⟩
  by_cases hab : a = k ∧ b = i
  · obtain ⟨rfl, rfl⟩ := hab
    rw [nf_su_s] at hsa
    cases hsa
    exact absurd hq (hnr q)
  · rw [nf_su_n _ _ hab] at hsa
    have hq' : nf_re P a b s q := by
      match s with
      | .inl o => exact hq
      | .inr o =>
        obtain ⟨j, hj⟩ := hq
        refine ⟨j, ?_⟩
        simp only [nf_pz, if_neg hab] at hj
        exact hj
    obtain ⟨s', hs'⟩ := hok a b s hsa q hq'
    exact up q s' hs'
theorem nf_newo (hC : nf_C p m c cc nL s args Ts own D cl tys) (hin : ∀ w ∈ u_ws C T N, w ∈ Ts) (ty : Nat → FieldType) (hty : ∀ k, k < N → parseFieldDescriptor (T k).2.2.1 = some (ty k)) (hcl : Cond.classLink own index C ∈ Ts) (hinst : Cond.instantiable C N ∈ Ts) (hini : Cond.initialized C ∈ Ts) (hM : nf_M D cl Bs sh ad I J P H0 H locs) (hc : cl[ci]? = some (C, T, N)) (k i : Nat) (hs : sh k i = none) (fs : List nf_F) (hnr : ∀ f ∈ fs, ¬ f.1 = 2) (hdv : ∀ j, j < N → defaultValue (ty j) = vp_V (fs.map nf_dv) j) (hcells : cells + 1 ≤ R.cells) (hslots : slots + N ≤ R.slots) (hdg : decode cc pc = .ok (.new index, 3))
    (kk : ∀ (q : Nat) (H1 : Heap), nf_M D cl Bs (nf_su sh k i (.inl (ci, fs))) (nh_ad ad k i q) (nf_iz I k i) (nf_jz J k i) (nf_pz P k i) H0 H1 locs → W p l e R s m args below meth c H1 locs (cells + 1) (slots + N) Q (F0 m (pc + 3) ls (.ref (nh_ad ad k i q k i) :: rest))) : W p l e R s m args below meth c H locs cells slots Q (F0 m pc ls rest) := by
  obtain ⟨⟨hx, hb, hml, hown, hts⟩, hK⟩ := hC
  obtain ⟨hM, hok, hS, hB⟩ := hM
  obtain ⟨ws, hP, hD, hpush⟩ := nh_push (k := k) (i := i) (x := .inr (ci, fs.map nf_dv)) hM (by unfold nf_G; rw [hs]; rfl) (fun _ _ => rfl)
  refine va_new hx hb hts hin ty hty hown (hts _ hcl) (hts _ hinst) (hts _ hini) hK hP hD hS (fun q hq => Nat.le_trans hB hq) hc hdv hcells hslots hdg (fun q H1 a1 a2 a3 => ?_)
  have hkk := kk q H1 ⟨(hpush q H1 a1 a2).to (nf_new_G hok hs ?_), nf_new_ok hok hs (fun q' hq' => ?_), a3, hB⟩
  · rw [nh_ad_new] at hkk
    exact hkk
  · show Sum.inr (ci, _) = Sum.inr (ci, _)
    congr 2
    apply List.ext_getElem?
    intro q2
    rw [nf_fs_get, List.getElem?_map]
    cases hf : fs[q2]? with
    | none => rfl
    | some f =>
      have h2 := hnr f (List.mem_of_getElem? hf)
      obtain ⟨t, y⟩ := f
      match t with
      | 0 => simp [nf_v, nf_dv, nf_iz]
      | 1 => simp [nf_v, nf_dv, nf_jz]
      | 2 => exact absurd rfl h2
      | t + 3 => rfl
  · obtain ⟨f, h1, h2, -⟩ := hq'
    exact hnr f h1 h2
theorem nf_newi (hC : nf_C p m c cc nL s args Ts own D cl tys) (harr : Cond.arrayClass .int ∈ Ts) (hM : nf_M D cl Bs sh ad I J P H0 H locs) (t0 : Nat) (ht : tys[t0]? = some (cA, .int)) (k i : Nat) (hs : sh k i = none) {j : Int32} (N' : Nat) (hj : j = nI N') (hN : N' < 100000) (hcells : cells + 1 ≤ R.cells) (hslots : slots + N' ≤ R.slots) (hdg : decode cc pc = .ok (.newarray .int, 2))
    (kk : ∀ (q : Nat) (H1 : Heap), nf_M D cl Bs (nf_su sh k i (.inr (cA, N', 0))) (nh_ad ad k i q) (nf_iz I k i) (nf_jz J k i) (nf_pz P k i) H0 H1 locs → W p l e R s m args below meth c H1 locs (cells + 1) (slots + N') Q (F0 m (pc + 2) ls (.ref (nh_ad ad k i q k i) :: rest))) : W p l e R s m args below meth c H locs cells slots Q (F0 m pc ls (.int j :: rest)) := by
  obtain ⟨⟨hx, hb, hml, hown, hts⟩, hK⟩ := hC
  obtain ⟨hM, hok, hS, hB⟩ := hM
  have hcl : j.toNatClampNeg = N' := by rw [hj]; exact nI_clamp (by omega)
  obtain ⟨ws, hP, hD, hpush⟩ := nh_push (k := k) (i := i) (x := .inl (cA, N', .inl (fun _ => 0))) hM (by unfold nf_G; rw [hs]; rfl) (fun _ _ => rfl)
  refine va_newa (atype := .int) (N' := N') (a0 := (N', .inl (fun _ => 0))) (ty := .int) hx hb (hts _ harr) rfl hK hP hD hS (fun q hq => Nat.le_trans hB hq) (fun _ => rfl) (by rw [hj]; exact nI_pos (by omega)) hcl (by simp only [componentBytes]; omega) hcells hslots hdg (fun q cB H1 a0 a1 a2 a3 => ?_)
  have hlt : t0 < tys.length := (List.getElem?_eq_some_iff.mp ht).1
  have e1 : cB = cA := nh_one a0 (i := tys.length) (j := t0) (by rw [List.getElem?_append_right (Nat.le_refl _), Nat.sub_self]; rfl) (by rw [List.getElem?_append_left hlt]; exact ht)
  subst e1
  have hkk := kk q H1 ⟨(hpush q H1 a1 a2).to (nf_new_G hok hs ?_), nf_new_ok hok hs (fun q' hq' => ?_), a3, hB⟩
  · rw [nh_ad_new] at hkk
    exact hkk
  · show Sum.inl (cB, N', Sum.inl (nf_iz I k i k i)) = _
    rw [show nf_iz I k i k i = fun _ => 0 from funext fun c => by simp [nf_iz]]
  · obtain ⟨y, hy⟩ := hq'
    simp [nf_pz] at hy
theorem nf_newl (hC : nf_C p m c cc nL s args Ts own D cl tys) (harr : Cond.arrayClass .long ∈ Ts) (hM : nf_M D cl Bs sh ad I J P H0 H locs) (t0 : Nat) (ht : tys[t0]? = some (cA, .long)) (k i : Nat) (hs : sh k i = none) {j : Int32} (N' : Nat) (hj : j = nI N') (hN : N' < 100000) (hcells : cells + 1 ≤ R.cells) (hslots : slots + N' ≤ R.slots) (hdg : decode cc pc = .ok (.newarray .long, 2))
    (kk : ∀ (q : Nat) (H1 : Heap), nf_M D cl Bs (nf_su sh k i (.inr (cA, N', 1))) (nh_ad ad k i q) (nf_iz I k i) (nf_jz J k i) (nf_pz P k i) H0 H1 locs → W p l e R s m args below meth c H1 locs (cells + 1) (slots + N') Q (F0 m (pc + 2) ls (.ref (nh_ad ad k i q k i) :: rest))) : W p l e R s m args below meth c H locs cells slots Q (F0 m pc ls (.int j :: rest)) := by
  obtain ⟨⟨hx, hb, hml, hown, hts⟩, hK⟩ := hC
  obtain ⟨hM, hok, hS, hB⟩ := hM
  have hcl : j.toNatClampNeg = N' := by rw [hj]; exact nI_clamp (by omega)
  obtain ⟨ws, hP, hD, hpush⟩ := nh_push (k := k) (i := i) (x := .inl (cA, N', .inr (.inl (fun _ => 0)))) hM (by unfold nf_G; rw [hs]; rfl) (fun _ _ => rfl)
  refine va_newa (atype := .long) (N' := N') (a0 := (N', .inr (.inl (fun _ => 0)))) (ty := .long) hx hb (hts _ harr) rfl hK hP hD hS (fun q hq => Nat.le_trans hB hq) (fun _ => rfl) (by rw [hj]; exact nI_pos (by omega)) hcl (by simp only [componentBytes]; omega) hcells hslots hdg (fun q cB H1 a0 a1 a2 a3 => ?_)
  have hlt : t0 < tys.length := (List.getElem?_eq_some_iff.mp ht).1
  have e1 : cB = cA := nh_one a0 (i := tys.length) (j := t0) (by rw [List.getElem?_append_right (Nat.le_refl _), Nat.sub_self]; rfl) (by rw [List.getElem?_append_left hlt]; exact ht)
  subst e1
  have hkk := kk q H1 ⟨(hpush q H1 a1 a2).to (nf_new_G hok hs ?_), nf_new_ok hok hs (fun q' hq' => ?_), a3, hB⟩
  · rw [nh_ad_new] at hkk
    exact hkk
  · show Sum.inl (cB, N', Sum.inr (Sum.inl (nf_jz J k i k i))) = _
    rw [show nf_jz J k i k i = fun _ => 0 from funext fun c => by simp [nf_jz]]
  · obtain ⟨y, hy⟩ := hq'
    simp [nf_pz] at hy
theorem nf_newq (hC : nf_C p m c cc nL s args Ts own D cl tys) (hclink : Cond.classLink own index C ∈ Ts) (hover : va_AO C s) (hM : nf_M D cl Bs sh ad I J P H0 H locs) (t0 : Nat) (ht : tys[t0]? = some (cA, .object C)) (k i : Nat) (hs : sh k i = none) {j : Int32} (N' : Nat) (hj : j = nI N') (hN : N' < 100000) (hcells : cells + 1 ≤ R.cells) (hslots : slots + N' ≤ R.slots) (hdg : decode cc pc = .ok (.anewarray index, 3))
    (kk : ∀ (q : Nat) (H1 : Heap), nf_M D cl Bs (nf_su sh k i (.inr (cA, N', 2))) (nh_ad ad k i q) (nf_iz I k i) (nf_jz J k i) (nf_pz P k i) H0 H1 locs → W p l e R s m args below meth c H1 locs (cells + 1) (slots + N') Q (F0 m (pc + 3) ls (.ref (nh_ad ad k i q k i) :: rest))) : W p l e R s m args below meth c H locs cells slots Q (F0 m pc ls (.int j :: rest)) := by
  obtain ⟨⟨hx, hb, hml, hown, hts⟩, hK⟩ := hC
  obtain ⟨hM, hok, hS, hB⟩ := hM
  have hcl : j.toNatClampNeg = N' := by rw [hj]; exact nI_clamp (by omega)
  obtain ⟨ws, hP, hD, hpush⟩ := nh_push (k := k) (i := i) (x := .inl (cA, N', .inr (.inr (.inr (.inr (fun _ => none)))))) hM (by unfold nf_G; rw [hs]; rfl) (fun _ _ => rfl)
  refine va_newq (N' := N') hx hb hown (hts _ hclink) hover hK hP hD hS (fun q hq => Nat.le_trans hB hq) (by rw [hj]; exact nI_pos (by omega)) hcl (by omega) hcells hslots hdg (fun q cB H1 a0 a1 a2 a3 => ?_)
  have hlt : t0 < tys.length := (List.getElem?_eq_some_iff.mp ht).1
  have e1 : cB = cA := nh_one a0 (i := tys.length) (j := t0) (by rw [List.getElem?_append_right (Nat.le_refl _), Nat.sub_self]; rfl) (by rw [List.getElem?_append_left hlt]; exact ht)
  subst e1
  have hkk := kk q H1 ⟨(hpush q H1 a1 a2).to (nf_new_G hok hs ?_), nf_new_ok hok hs (fun q' hq' => ?_), a3, hB⟩
  · rw [nh_ad_new] at hkk
    exact hkk
  · show Sum.inl (cB, N', Sum.inr (Sum.inr (Sum.inr (Sum.inr (nf_rf (nh_ad ad k i q) (nf_pz P k i) k i))))) = _
    rw [show nf_rf (nh_ad ad k i q) (nf_pz P k i) k i = fun _ => none from funext fun c => by simp [nf_rf, nf_pz]]
  · obtain ⟨y, hy⟩ := hq'
    simp [nf_pz] at hy
/-! a reference field gets its cell, in a constructor -/
theorem nf_set_r {k2 : Nat} (hg : sh k i = some (.inl (ci, fs))) (hlt : n < fs.length) : ∀ a b : Nat, nf_G (nf_su sh k i (.inl (ci, fs.set n (2, k2)))) ad I J P a b = if a = k ∧ b = i then some (.inr (ci, (nf_fs ad I J k i 0 fs).set n (.ref (ad k2 i)))) else nf_G sh ad I J P a b := by
  intro a b
  by_cases hab : a = k ∧ b = i
  · obtain ⟨rfl, rfl⟩ := hab
    rw [if_pos ⟨rfl, rfl⟩, nf_G_at (nf_su_s _ _ _ _)]
    show some (Sum.inr (ci, nf_fs ad I J a b 0 (fs.set n (2, k2)))) = _
    congr 3
    apply List.ext_getElem?
    intro q
    rw [nf_fs_get, List.getElem?_set, List.getElem?_set, nf_fs_len]
    by_cases hq : n = q
    · subst hq
      simp [hlt, nf_v]
    · rw [if_neg hq, if_neg hq, nf_fs_get]
  · rw [if_neg hab]
    unfold nf_G
    rw [nf_su_n _ _ hab]
theorem nf_ok_r {k2 : Nat} {x : nf_O} (hok : nf_ok sh P) (hg : sh k i = some (.inl (ci, fs))) (hv : sh k2 i = some x) : nf_ok (nf_su sh k i (.inl (ci, fs.set n (2, k2)))) P := by
  intro a b s hsa q hq
  have up : ∀ (q : Nat × Nat) (s' : nf_O), sh q.1 q.2 = some s' → ∃ s'', nf_su sh k i (.inl (ci, fs.set n (2, k2))) q.1 q.2 = some s'' := by
    intro q s' h
    by_cases hh : q.1 = k ∧ q.2 = i
    · exact ⟨_, by unfold nf_su; rw [if_pos hh]⟩
    · exact ⟨s', by rw [nf_su_n _ _ hh]; exact h⟩
  by_cases hab : a = k ∧ b = i
  · obtain ⟨rfl, rfl⟩ := hab
    rw [nf_su_s] at hsa
    cases hsa
    obtain ⟨f, h1, h2, h3⟩ := hq
    rcases List.mem_or_eq_of_mem_set h1 with h | h
    · obtain ⟨s', hs'⟩ := hok a b _ hg q ⟨f, h, h2, h3⟩
      exact up q s' hs'
    · subst h
      subst h3
      exact up _ x hv
  · rw [nf_su_n _ _ hab] at hsa
    obtain ⟨s', hs'⟩ := hok a b s hsa q hq
    exact up q s' hs'
theorem nf_putrF (hC : nf_C p m c cc nL s args Ts own D cl tys) (hin : ∀ w ∈ u_ws C T N, w ∈ Ts) (ty0 : Nat → FieldType) (hty : ∀ k, k < N → parseFieldDescriptor (T k).2.2.1 = some (ty0 k)) (hnm : ∀ a, a < N → ∀ b, b < N → a ≠ b → (T a).2.1 ≠ (T b).2.1) (hM : nf_M D cl Bs sh ad I J P H0 H locs) (hg : sh k i = some (.inl (ci, fs))) (hc : cl[ci]? = some (C, T, N)) (n : Nat) (hn : n < N) (hlink : Cond.fieldLink own index (T n).1 (T n).2.1 (T n).2.2.1 ∈ Ts) (hfin : (T n).2.2.2 = true) (hin2 : meth.name = "<init>") (hdecl : (T n).1 = own) {ty : FieldType} (hd : parseFieldDescriptor (T n).2.2.1 = some ty) {k2 : Nat} (hnw : narrow ty (.ref (ad k2 i)) = .ref (ad k2 i)) (hfit : fits ty (.ref (ad k2 i)) = true) (hf : n < fs.length) {x : nf_O} (hv : sh k2 i = some x) (hdg : decode cc pc = .ok (.putfield index, 3))
    (kk : ∀ (H1 : Heap) (locs1 : List Loc), nf_M D cl Bs (nf_su sh k i (.inl (ci, fs.set n (2, k2)))) ad I J P H0 H1 locs1 → W p l e R s m args below meth c H1 locs1 cells slots Q (F0 m (pc + 3) ls rest)) : W p l e R s m args below meth c H locs cells slots Q (F0 m pc ls (.ref (ad k2 i) :: .ref (ad k i) :: rest)) := by
  obtain ⟨⟨hx, hb, hml, hown, hts⟩, hK⟩ := hC
  obtain ⟨hM, hok, hS, hB⟩ := hM
  obtain ⟨ws, q0, hP, hD, hq, -, hset⟩ := nh_set hM (nf_G_at hg) (nf_set_r (ad := ad) (I := I) (J := J) (P := P) (k2 := k2) hg hf)
  exact va_putF hx hb hts hin ty0 hty hnm hown hK hP hD hS q0 hq hc n hn (hts _ hlink) (fun _ h => h) hfin hin2 hdecl hd hnw hfit (by rw [nf_fs_len]; exact hf) hdg (fun H1 locs1 a1 a2 a3 => kk H1 locs1 ⟨hset H1 a1 a2, nf_ok_r hok hg hv, a3, hB⟩)
theorem nf_putr (hC : nf_C p m c cc nL s args Ts own D cl tys) (hin : ∀ w ∈ u_ws C T N, w ∈ Ts) (ty0 : Nat → FieldType) (hty : ∀ k, k < N → parseFieldDescriptor (T k).2.2.1 = some (ty0 k)) (hnm : ∀ a, a < N → ∀ b, b < N → a ≠ b → (T a).2.1 ≠ (T b).2.1) (hM : nf_M D cl Bs sh ad I J P H0 H locs) (hg : sh k i = some (.inl (ci, fs))) (hc : cl[ci]? = some (C, T, N)) (n : Nat) (hn : n < N) (hlink : Cond.fieldLink own index (T n).1 (T n).2.1 (T n).2.2.1 ∈ Ts) (hfin : (T n).2.2.2 = false) {ty : FieldType} (hd : parseFieldDescriptor (T n).2.2.1 = some ty) {k2 : Nat} (hnw : narrow ty (.ref (ad k2 i)) = .ref (ad k2 i)) (hfit : fits ty (.ref (ad k2 i)) = true) (hf : n < fs.length) {x : nf_O} (hv : sh k2 i = some x) (hdg : decode cc pc = .ok (.putfield index, 3))
    (kk : ∀ (H1 : Heap) (locs1 : List Loc), nf_M D cl Bs (nf_su sh k i (.inl (ci, fs.set n (2, k2)))) ad I J P H0 H1 locs1 → W p l e R s m args below meth c H1 locs1 cells slots Q (F0 m (pc + 3) ls rest)) : W p l e R s m args below meth c H locs cells slots Q (F0 m pc ls (.ref (ad k2 i) :: .ref (ad k i) :: rest)) := by
  obtain ⟨⟨hx, hb, hml, hown, hts⟩, hK⟩ := hC
  obtain ⟨hM, hok, hS, hB⟩ := hM
  obtain ⟨ws, q0, hP, hD, hq, -, hset⟩ := nh_set hM (nf_G_at hg) (nf_set_r (ad := ad) (I := I) (J := J) (P := P) (k2 := k2) hg hf)
  exact va_put hx hb hts hin ty0 hty hnm hown hK hP hD hS q0 hq hc n hn (hts _ hlink) (fun _ h => h) hfin hd hnw hfit (by rw [nf_fs_len]; exact hf) hdg (fun H1 locs1 a1 a2 a3 => kk H1 locs1 ⟨hset H1 a1 a2, nf_ok_r hok hg hv, a3, hB⟩)
theorem nf_putiF (hC : nf_C p m c cc nL s args Ts own D cl tys) (hin : ∀ w ∈ u_ws C T N, w ∈ Ts) (ty0 : Nat → FieldType) (hty : ∀ k, k < N → parseFieldDescriptor (T k).2.2.1 = some (ty0 k)) (hnm : ∀ a, a < N → ∀ b, b < N → a ≠ b → (T a).2.1 ≠ (T b).2.1) (hM : nf_M D cl Bs sh ad I J P H0 H locs) (hg : sh k i = some (.inl (ci, fs))) (hc : cl[ci]? = some (C, T, N)) (n : Nat) (hn : n < N) (hlink : Cond.fieldLink own index (T n).1 (T n).2.1 (T n).2.2.1 ∈ Ts) (hfin : (T n).2.2.2 = true) (hin2 : meth.name = "<init>") (hdecl : (T n).1 = own) (hd : parseFieldDescriptor (T n).2.2.1 = some .int) (hf : fs[n]? = some (0, z)) {v : Int32} (hdg : decode cc pc = .ok (.putfield index, 3))
    (kk : ∀ (H1 : Heap) (locs1 : List Loc), nf_M D cl Bs sh ad (nf_iu I k i n v) J P H0 H1 locs1 → W p l e R s m args below meth c H1 locs1 cells slots Q (F0 m (pc + 3) ls rest)) : W p l e R s m args below meth c H locs cells slots Q (F0 m pc ls (.int v :: .ref (ad k i) :: rest)) := by
  obtain ⟨⟨hx, hb, hml, hown, hts⟩, hK⟩ := hC
  obtain ⟨hM, hok, hS, hB⟩ := hM
  obtain ⟨ws, q0, hP, hD, hq, -, hset⟩ := nh_set hM (nf_G_at hg) (nf_set_i (ad := ad) (I := I) (J := J) (P := P) (v := v) hg hf)
  exact va_putF hx hb hts hin ty0 hty hnm hown hK hP hD hS q0 hq hc n hn (hts _ hlink) (fun _ h => h) hfin hin2 hdecl hd rfl rfl (by rw [nf_fs_len]; exact (List.getElem?_eq_some_iff.mp hf).1) hdg (fun H1 locs1 a1 a2 a3 => kk H1 locs1 ⟨hset H1 a1 a2, hok, a3, hB⟩)
end NRows
end
section
/-! A method's start, its end, and a call, over the memory by fields. -/
def nb_I (b : Bool) : Int32 := if b then 1 else 0
theorem nb_0 {b : Bool} (h : nb_I b = 0) : b = false := by cases b with
  | false => rfl
  | true => exact absurd h (by decide +kernel)
theorem nb_1 {b : Bool} (h : ¬ nb_I b = 0) : b = true := by cases b with
  | false => exact absurd rfl h
  | true => rfl
theorem nb_n (b : Bool) : narrow .boolean (.int (nb_I b)) = .int (nb_I b) := by cases b <;> decide +kernel
def nf_U (D : va_G) (cl : List vw_C) (tys : List (ClassId × FieldType)) (Bs : Nat) (sh : nf_H) (ad : nf_A) (u : nf_I × nf_J × nf_P) (U : State) : Prop := va_K D cl tys U ∧ nf_M D cl Bs sh ad u.1 u.2.1 u.2.2 U.heap U.heap []
def nf_X (D : va_G) (cl : List vw_C) (tys : List (ClassId × FieldType)) (Bs : Nat) (w : nf_H × nf_A × nf_I × nf_J × nf_P) (U : State) : Prop := nf_U D cl tys Bs w.1 w.2.1 w.2.2 U
abbrev nf_Rm (fr lo : Nat) : Room := { frames := fr, cells := 0, slots := 0, locals := lo }
abbrev nf_Ti (l : Launch) (y : MethodName) (ws : List Cond) (fr lo : Nat) (D : va_G) (cl : List vw_C) (tys : List (ClassId × FieldType)) (Bs : Nat) (sh : nf_H) (ad : nf_A) (As : List Value) (I : nf_I) (J : nf_J) (P : nf_P) (r : Int32) (I1 : nf_I) (J1 : nf_J) (P1 : nf_P) : Prop := Met l y ws (nf_Rm fr lo) (va_Pc As (nf_U D cl tys Bs sh ad (I, J, P))) (va_Qi (fun (r' : Int32) (u : nf_I × nf_J × nf_P) => r' = r ∧ u = (I1, J1, P1)) (nf_U D cl tys Bs sh ad) (fun q => Bs ≤ q)) 0 0 (fun q => Bs ≤ q)
abbrev nf_Tl (l : Launch) (y : MethodName) (ws : List Cond) (fr lo : Nat) (D : va_G) (cl : List vw_C) (tys : List (ClassId × FieldType)) (Bs : Nat) (sh : nf_H) (ad : nf_A) (As : List Value) (I : nf_I) (J : nf_J) (P : nf_P) (r : Int64) (I1 : nf_I) (J1 : nf_J) (P1 : nf_P) : Prop := Met l y ws (nf_Rm fr lo) (va_Pc As (nf_U D cl tys Bs sh ad (I, J, P))) (va_Ql (fun (r' : Int64) (u : nf_I × nf_J × nf_P) => r' = r ∧ u = (I1, J1, P1)) (nf_U D cl tys Bs sh ad) (fun q => Bs ≤ q)) 0 0 (fun q => Bs ≤ q)
abbrev nf_Tv (l : Launch) (y : MethodName) (ws : List Cond) (fr lo : Nat) (D : va_G) (cl : List vw_C) (tys : List (ClassId × FieldType)) (Bs : Nat) (sh : nf_H) (ad : nf_A) (As : List Value) (I : nf_I) (J : nf_J) (P : nf_P) (I1 : nf_I) (J1 : nf_J) (P1 : nf_P) : Prop := Met l y ws (nf_Rm fr lo) (va_Pc As (nf_U D cl tys Bs sh ad (I, J, P))) (va_Qv (fun (u : nf_I × nf_J × nf_P) => u = (I1, J1, P1)) (nf_U D cl tys Bs sh ad) (fun q => Bs ≤ q)) 0 0 (fun q => Bs ≤ q)
abbrev nf_Tq (l : Launch) (y : MethodName) (ws : List Cond) (fr lo : Nat) (D : va_G) (cl : List vw_C) (tys : List (ClassId × FieldType)) (Bs : Nat) (sh : nf_H) (ad : nf_A) (As : List Value) (I : nf_I) (J : nf_J) (P : nf_P) (r : Option Nat) (I1 : nf_I) (J1 : nf_J) (P1 : nf_P) : Prop := Met l y ws (nf_Rm fr lo) (va_Pc As (nf_U D cl tys Bs sh ad (I, J, P))) (va_Qq (fun (r' : Option Nat) (u : nf_I × nf_J × nf_P) => r' = r ∧ u = (I1, J1, P1)) (nf_U D cl tys Bs sh ad) (fun q => Bs ≤ q)) 0 0 (fun q => Bs ≤ q)
section NCalls
variable {p : Program} {l : Launch} {e : Env} {R : Room} {s : State} {m : MethodId} {args : Array Value} {below : List Frame} {meth : Method} {c : Code} {H : Heap} {locs : List Loc} {cells slots : Nat} {Q : State → Prop}
variable {cc : ByteArray} {pc : Nat} {ls : Array Slot} {rest st0 : List Value} {D : va_G} {cl : List vw_C} {tys : List (ClassId × FieldType)} {H0 : Heap} {ad : nf_A} {sh : nf_H} {I I1 : nf_I} {J J1 : nf_J} {P P1 : nf_P} {k i : Nat}
variable {nL Bs N ci : Nat} {Ts : List Cond} {own C : String} {T : u_T} {fs : List nf_F} {a : Array Value}
theorem nf_M.here (h : nf_M D cl Bs sh ad I J P H0 H locs) : nf_M D cl Bs sh ad I J P H H [] := ⟨h.1, h.2.1, va_S.rf, Nat.le_trans h.2.2.2 h.2.2.1.1⟩
theorem nf_preS (hC : nf_C p m c cc nL s args Ts own D cl tys) (hM : nf_M D cl Bs sh ad I J P H0 H locs) {As : List Value} : PreS s H (va_Pc As (nf_U D cl tys Bs sh ad (I, J, P))) As :=
  ⟨fun a U g mk q => ⟨q.1, va_K.moved (u := U) (U := U.calling g mk a) (Vm.Alike.refl U.vm) q.2.1, q.2.2⟩, fun U hU hW => ⟨rfl, va_K.moved hW.alike hC.2, by rw [hU]; exact hM.here⟩⟩
theorem nf_preV (hC : nf_C p m c cc nL s args Ts own D cl tys) (hM : nf_M D cl Bs sh ad I J P H0 H locs) {As : List Value} (hg : sh k i = some (.inl (ci, fs))) (hc : cl[ci]? = some (C, T, N)) : PreV s H C (ad k i) (va_Pc (.ref (ad k i) :: As) (nf_U D cl tys Bs sh ad (I, J, P))) As := by
  obtain ⟨ws, q0, hP, hq⟩ := nh_at hM.1 (nf_G_at hg)
  exact ⟨(nf_preS hC hM).1, va_recv hC.2 hP hc hq, (nf_preS (As := .ref (ad k i) :: As) hC hM).2⟩
theorem nf_enter {y : MethodName} {ws ws' : List Cond} {rm : Room} {As : List Value} {B : State → Prop} {Qc : Array Value → State → Outcome → State → Prop} {mc ms : Nat} {free : Addr → Prop} {cc : ByteArray} {maxL : Nat} {ret : Option FieldType} (hy : plainName y.cls = true) (hw : ws = Cond.code y cc maxL ret :: ws') (hlen : (lg_sl As).length ≤ maxL)
    (body : ∀ (p : Program) (e : Env) (s : State) (m : MethodId) (below : List Frame) (meth : Method) (c : Code) (ls : Array Slot), CallFix p m c cc maxL s As.toArray ws y.cls → meth.sig.returnType = ret → meth.locks = false → meth.name = y.name → B s → lv_has ls maxL (lv_args 0 As) → W p l e rm s m As.toArray below meth c s.heap [] 0 0 (MQ below Qc As.toArray s mc ms free) (F0 m 0 ls [])) : Met l y ws rm (va_Pc As B) Qc mc ms free := by
  refine Met.ofW (cc := cc) (maxL := maxL) (ret := ret) hy hw ?_
  intro p e s m args below meth c s₁ B' hml hv
  obtain ⟨rfl, hB⟩ := hv
  rw [lg_entry_eq]
  exact body p e s m below meth c _ ⟨B'.exec, B'.bytes, hml, findClass_of_methodNamed B'.named, atoms_spec (ws := ws) B'.pre⟩ B'.returns B'.notSynchronized (name_of_methodNamed B'.named B'.method).1 hB (lv_entry As hlen)
/-! ends -/
theorem nf_end (hC : nf_C p m c cc nL s args Ts own D cl tys) (hM : nf_M D cl Bs sh ad I J P s.heap H locs) {t : State} (ht : t.heap = H) (hW : s.WarmedH t.vm) : nf_U D cl tys Bs sh ad (I, J, P) t := ⟨va_K.moved hW.alike hC.2, by rw [ht]; exact hM.here⟩
theorem nf_reti (hC : nf_C p m c cc nL s args Ts own D cl tys) (hr : meth.sig.returnType = some .int) (hlk : meth.locks = false) (hM : nf_M D cl Bs sh ad I J P s.heap H locs) {v r : Int32} (hv : v = r) (hI : I = I1) (hJ : J = J1) (hP : P = P1) (hdg : decode cc pc = .ok (.ireturn, 1)) : W p l e R s m args below meth c H locs cells slots (MQ below (va_Qi (fun (r' : Int32) (u : nf_I × nf_J × nf_P) => r' = r ∧ u = (I1, J1, P1)) (nf_U D cl tys Bs sh ad) (fun q => Bs ≤ q)) args s cells slots (fun q => Bs ≤ q)) (F0 m pc ls [.int v]) := by
  subst hv hI hJ hP
  exact W.iret hC.1.1 hC.1.2.1 hr (fun t ht hW => ⟨⟨v, (I, J, P), rfl, ⟨rfl, rfl⟩, nf_end hC hM ht hW⟩, hM.2.2.1.F ht⟩) hM.2.2.1.2.2 hdg hlk
theorem nf_retz (hC : nf_C p m c cc nL s args Ts own D cl tys) (hr : meth.sig.returnType = some .boolean) (hlk : meth.locks = false) (hM : nf_M D cl Bs sh ad I J P s.heap H locs) {v : Int32} {b : Bool} (hv : v = nb_I b) (hI : I = I1) (hJ : J = J1) (hP : P = P1) (hdg : decode cc pc = .ok (.ireturn, 1)) : W p l e R s m args below meth c H locs cells slots (MQ below (va_Qi (fun (r' : Int32) (u : nf_I × nf_J × nf_P) => r' = nb_I b ∧ u = (I1, J1, P1)) (nf_U D cl tys Bs sh ad) (fun q => Bs ≤ q)) args s cells slots (fun q => Bs ≤ q)) (F0 m pc ls [.int v]) := by
  subst hv hI hJ hP
  exact W.zret hC.1.1 hC.1.2.1 hr (nb_n b) (fun t ht hW => ⟨⟨nb_I b, (I, J, P), rfl, ⟨rfl, rfl⟩, nf_end hC hM ht hW⟩, hM.2.2.1.F ht⟩) hM.2.2.1.2.2 hdg hlk
theorem nf_retl (hC : nf_C p m c cc nL s args Ts own D cl tys) (hr : meth.sig.returnType = some .long) (hlk : meth.locks = false) (hM : nf_M D cl Bs sh ad I J P s.heap H locs) {v r : Int64} (hv : v = r) (hI : I = I1) (hJ : J = J1) (hP : P = P1) (hdg : decode cc pc = .ok (.lreturn, 1)) : W p l e R s m args below meth c H locs cells slots (MQ below (va_Ql (fun (r' : Int64) (u : nf_I × nf_J × nf_P) => r' = r ∧ u = (I1, J1, P1)) (nf_U D cl tys Bs sh ad) (fun q => Bs ≤ q)) args s cells slots (fun q => Bs ≤ q)) (F0 m pc ls [.long v]) := by
  subst hv hI hJ hP
  exact W.lret hC.1.1 hC.1.2.1 hr (fun t ht hW => ⟨⟨v, (I, J, P), rfl, ⟨rfl, rfl⟩, nf_end hC hM ht hW⟩, hM.2.2.1.F ht⟩) hM.2.2.1.2.2 hdg hlk
theorem nf_retv (hC : nf_C p m c cc nL s args Ts own D cl tys) (hr : meth.sig.returnType = none) (hlk : meth.locks = false) (hM : nf_M D cl Bs sh ad I J P s.heap H locs) (hI : I = I1) (hJ : J = J1) (hP : P = P1) (hdg : decode cc pc = .ok (.return_, 1)) : W p l e R s m args below meth c H locs cells slots (MQ below (va_Qv (fun (u : nf_I × nf_J × nf_P) => u = (I1, J1, P1)) (nf_U D cl tys Bs sh ad) (fun q => Bs ≤ q)) args s cells slots (fun q => Bs ≤ q)) (F0 m pc ls []) := by
  subst hI hJ hP
  exact W.vret hC.1.1 hC.1.2.1 hr (fun t ht hW => ⟨⟨(I, J, P), rfl, rfl, nf_end hC hM ht hW⟩, hM.2.2.1.F ht⟩) hM.2.2.1.2.2 hdg hlk
theorem nf_retq (hC : nf_C p m c cc nL s args Ts own D cl tys) {rt : String} (hr : meth.sig.returnType = some (.object rt)) (hlk : meth.locks = false) (hM : nf_M D cl Bs sh ad I J P s.heap H locs) {v : Value} {r : Option Nat} (hv : v = va_rf r) (hI : I = I1) (hJ : J = J1) (hP : P = P1) (hdg : decode cc pc = .ok (.areturn, 1)) : W p l e R s m args below meth c H locs cells slots (MQ below (va_Qq (fun (r' : Option Nat) (u : nf_I × nf_J × nf_P) => r' = r ∧ u = (I1, J1, P1)) (nf_U D cl tys Bs sh ad) (fun q => Bs ≤ q)) args s cells slots (fun q => Bs ≤ q)) (F0 m pc ls [v]) := by
  subst hv hI hJ hP
  exact W.aret hC.1.1 hC.1.2.1 hr (Or.inl ⟨rt, rfl⟩) (by cases r with
    | none => exact Or.inl rfl
    | some a => exact Or.inr ⟨a, rfl⟩) (fun t ht hW => ⟨⟨r, (I, J, P), rfl, ⟨rfl, rfl⟩, nf_end hC hM ht hW⟩, hM.2.2.1.F ht⟩) hM.2.2.1.2.2 hdg hlk
/-! a method's walk: its end is given as a row -/
theorem nf_enteri {y : MethodName} {ws ws' : List Cond} {fr lo : Nat} {As : List Value} {cc : ByteArray} {maxL : Nat} {r : Int32} (hy : plainName y.cls = true) (hw : ws = Cond.code y cc maxL (some .int) :: ws') (hlen : (lg_sl As).length ≤ maxL)
    (body : ∀ (p : Program) (e : Env) (s : State) (m : MethodId) (below : List Frame) (meth : Method) (c : Code) (ls : Array Slot) (Q : State → Prop), nf_C p m c cc maxL s As.toArray ws y.cls D cl tys → nf_M D cl Bs sh ad I J P s.heap s.heap [] → lv_has ls maxL (lv_args 0 As) →
      (∀ (H : Heap) (locs : List Loc) (ls : Array Slot) (pc : Nat) (v : Int32) (I' : nf_I) (J' : nf_J) (P' : nf_P), v = r → I' = I1 → J' = J1 → P' = P1 → nf_M D cl Bs sh ad I' J' P' s.heap H locs → decode cc pc = .ok (.ireturn, 1) → W p l e (nf_Rm fr lo) s m As.toArray below meth c H locs 0 0 Q (F0 m pc ls [.int v])) →
      W p l e (nf_Rm fr lo) s m As.toArray below meth c s.heap [] 0 0 Q (F0 m 0 ls [])) : nf_Ti l y ws fr lo D cl tys Bs sh ad As I J P r I1 J1 P1 := by
  refine nf_enter hy hw hlen ?_
  intro p e s m below meth c ls hF hr hlk hnm hU hl
  obtain ⟨hK, hM⟩ := hU
  refine body p e s m below meth c ls _ ⟨hF, hK⟩ hM hl ?_
  intro H locs ls pc v I' J' P' h1 h2 h3 h4 hM' hd
  exact nf_reti ⟨hF, hK⟩ hr hlk hM' h1 h2 h3 h4 hd
theorem nf_enterz {y : MethodName} {ws ws' : List Cond} {fr lo : Nat} {As : List Value} {cc : ByteArray} {maxL : Nat} {b : Bool} (hy : plainName y.cls = true) (hw : ws = Cond.code y cc maxL (some .boolean) :: ws') (hlen : (lg_sl As).length ≤ maxL)
    (body : ∀ (p : Program) (e : Env) (s : State) (m : MethodId) (below : List Frame) (meth : Method) (c : Code) (ls : Array Slot) (Q : State → Prop), nf_C p m c cc maxL s As.toArray ws y.cls D cl tys → nf_M D cl Bs sh ad I J P s.heap s.heap [] → lv_has ls maxL (lv_args 0 As) →
      (∀ (H : Heap) (locs : List Loc) (ls : Array Slot) (pc : Nat) (v : Int32) (I' : nf_I) (J' : nf_J) (P' : nf_P), v = nb_I b → I' = I1 → J' = J1 → P' = P1 → nf_M D cl Bs sh ad I' J' P' s.heap H locs → decode cc pc = .ok (.ireturn, 1) → W p l e (nf_Rm fr lo) s m As.toArray below meth c H locs 0 0 Q (F0 m pc ls [.int v])) →
      W p l e (nf_Rm fr lo) s m As.toArray below meth c s.heap [] 0 0 Q (F0 m 0 ls [])) : nf_Ti l y ws fr lo D cl tys Bs sh ad As I J P (nb_I b) I1 J1 P1 := by
  refine nf_enter hy hw hlen ?_
  intro p e s m below meth c ls hF hr hlk hnm hU hl
  obtain ⟨hK, hM⟩ := hU
  refine body p e s m below meth c ls _ ⟨hF, hK⟩ hM hl ?_
  intro H locs ls pc v I' J' P' h1 h2 h3 h4 hM' hd
  exact nf_retz ⟨hF, hK⟩ hr hlk hM' h1 h2 h3 h4 hd
theorem nf_enterl {y : MethodName} {ws ws' : List Cond} {fr lo : Nat} {As : List Value} {cc : ByteArray} {maxL : Nat} {r : Int64} (hy : plainName y.cls = true) (hw : ws = Cond.code y cc maxL (some .long) :: ws') (hlen : (lg_sl As).length ≤ maxL)
    (body : ∀ (p : Program) (e : Env) (s : State) (m : MethodId) (below : List Frame) (meth : Method) (c : Code) (ls : Array Slot) (Q : State → Prop), nf_C p m c cc maxL s As.toArray ws y.cls D cl tys → nf_M D cl Bs sh ad I J P s.heap s.heap [] → lv_has ls maxL (lv_args 0 As) →
      (∀ (H : Heap) (locs : List Loc) (ls : Array Slot) (pc : Nat) (v : Int64) (I' : nf_I) (J' : nf_J) (P' : nf_P), v = r → I' = I1 → J' = J1 → P' = P1 → nf_M D cl Bs sh ad I' J' P' s.heap H locs → decode cc pc = .ok (.lreturn, 1) → W p l e (nf_Rm fr lo) s m As.toArray below meth c H locs 0 0 Q (F0 m pc ls [.long v])) →
      W p l e (nf_Rm fr lo) s m As.toArray below meth c s.heap [] 0 0 Q (F0 m 0 ls [])) : nf_Tl l y ws fr lo D cl tys Bs sh ad As I J P r I1 J1 P1 := by
  refine nf_enter hy hw hlen ?_
  intro p e s m below meth c ls hF hr hlk hnm hU hl
  obtain ⟨hK, hM⟩ := hU
  refine body p e s m below meth c ls _ ⟨hF, hK⟩ hM hl ?_
  intro H locs ls pc v I' J' P' h1 h2 h3 h4 hM' hd
  exact nf_retl ⟨hF, hK⟩ hr hlk hM' h1 h2 h3 h4 hd
theorem nf_enterv {y : MethodName} {ws ws' : List Cond} {fr lo : Nat} {As : List Value} {cc : ByteArray} {maxL : Nat} (hy : plainName y.cls = true) (hw : ws = Cond.code y cc maxL none :: ws') (hlen : (lg_sl As).length ≤ maxL)
    (body : ∀ (p : Program) (e : Env) (s : State) (m : MethodId) (below : List Frame) (meth : Method) (c : Code) (ls : Array Slot) (Q : State → Prop), nf_C p m c cc maxL s As.toArray ws y.cls D cl tys → nf_M D cl Bs sh ad I J P s.heap s.heap [] → lv_has ls maxL (lv_args 0 As) →
      (∀ (H : Heap) (locs : List Loc) (ls : Array Slot) (pc : Nat) (I' : nf_I) (J' : nf_J) (P' : nf_P), I' = I1 → J' = J1 → P' = P1 → nf_M D cl Bs sh ad I' J' P' s.heap H locs → decode cc pc = .ok (.return_, 1) → W p l e (nf_Rm fr lo) s m As.toArray below meth c H locs 0 0 Q (F0 m pc ls [])) →
      W p l e (nf_Rm fr lo) s m As.toArray below meth c s.heap [] 0 0 Q (F0 m 0 ls [])) : nf_Tv l y ws fr lo D cl tys Bs sh ad As I J P I1 J1 P1 := by
  refine nf_enter hy hw hlen ?_
  intro p e s m below meth c ls hF hr hlk hnm hU hl
  obtain ⟨hK, hM⟩ := hU
  refine body p e s m below meth c ls _ ⟨hF, hK⟩ hM hl ?_
  intro H locs ls pc I' J' P' h2 h3 h4 hM' hd
  exact nf_retv ⟨hF, hK⟩ hr hlk hM' h2 h3 h4 hd
theorem nf_enterq {y : MethodName} {ws ws' : List Cond} {fr lo : Nat} {As : List Value} {cc : ByteArray} {maxL : Nat} {r : Option Nat} {rt : String} (hy : plainName y.cls = true) (hw : ws = Cond.code y cc maxL (some (.object rt)) :: ws') (hlen : (lg_sl As).length ≤ maxL)
    (body : ∀ (p : Program) (e : Env) (s : State) (m : MethodId) (below : List Frame) (meth : Method) (c : Code) (ls : Array Slot) (Q : State → Prop), nf_C p m c cc maxL s As.toArray ws y.cls D cl tys → nf_M D cl Bs sh ad I J P s.heap s.heap [] → lv_has ls maxL (lv_args 0 As) →
      (∀ (H : Heap) (locs : List Loc) (ls : Array Slot) (pc : Nat) (v : Value) (I' : nf_I) (J' : nf_J) (P' : nf_P), v = va_rf r → I' = I1 → J' = J1 → P' = P1 → nf_M D cl Bs sh ad I' J' P' s.heap H locs → decode cc pc = .ok (.areturn, 1) → W p l e (nf_Rm fr lo) s m As.toArray below meth c H locs 0 0 Q (F0 m pc ls [v])) →
      W p l e (nf_Rm fr lo) s m As.toArray below meth c s.heap [] 0 0 Q (F0 m 0 ls [])) : nf_Tq l y ws fr lo D cl tys Bs sh ad As I J P r I1 J1 P1 := by
  refine nf_enter hy hw hlen ?_
  intro p e s m below meth c ls hF hr hlk hnm hU hl
  obtain ⟨hK, hM⟩ := hU
  refine body p e s m below meth c ls _ ⟨hF, hK⟩ hM hl ?_
  intro H locs ls pc v I' J' P' h1 h2 h3 h4 hM' hd
  exact nf_retq ⟨hF, hK⟩ hr hlk hM' h1 h2 h3 h4 hd
/-! behind a call -/
theorem nf_calli {r : Int32} (hr : va_Run p l e R s m args below meth c H locs cells slots 0 0 (F0 m pc ls st0) rest (va_Qi (fun (r' : Int32) (u : nf_I × nf_J × nf_P) => r' = r ∧ u = (I1, J1, P1)) (nf_U D cl tys Bs sh ad) (fun q => Bs ≤ q) a) (fun q => Bs ≤ q)) (hM : nf_M D cl Bs sh ad I J P H0 H locs)
    (kk : ∀ (H1 : Heap) (locs1 : List Loc), nf_M D cl Bs sh ad I1 J1 P1 H0 H1 locs1 → W p l e R s m args below meth c H1 locs1 cells slots Q (F0 m (pc + 3) ls (.int r :: rest))) : W p l e R s m args below meth c H locs cells slots Q (F0 m pc ls st0) := by
  obtain ⟨h1, h2, hS, hB⟩ := hM
  refine va_calli hr hS (fun q _ h => h) (fun q h => h) (fun r' u t H1 locs1 ht hvm hw hBu hz hk hS1 => ?_)
  obtain ⟨rfl, rfl⟩ := hw
  obtain ⟨-, hN⟩ := hBu
  rw [ht] at hN
  exact kk H1 locs1 ⟨hN.1, hN.2.1, hS1, hB⟩
theorem nf_calll {r : Int64} (hr : va_Run p l e R s m args below meth c H locs cells slots 0 0 (F0 m pc ls st0) rest (va_Ql (fun (r' : Int64) (u : nf_I × nf_J × nf_P) => r' = r ∧ u = (I1, J1, P1)) (nf_U D cl tys Bs sh ad) (fun q => Bs ≤ q) a) (fun q => Bs ≤ q)) (hM : nf_M D cl Bs sh ad I J P H0 H locs)
    (kk : ∀ (H1 : Heap) (locs1 : List Loc), nf_M D cl Bs sh ad I1 J1 P1 H0 H1 locs1 → W p l e R s m args below meth c H1 locs1 cells slots Q (F0 m (pc + 3) ls (.long r :: rest))) : W p l e R s m args below meth c H locs cells slots Q (F0 m pc ls st0) := by
  obtain ⟨h1, h2, hS, hB⟩ := hM
  refine va_calll hr hS (fun q _ h => h) (fun q h => h) (fun r' u t H1 locs1 ht hvm hw hBu hz hk hS1 => ?_)
  obtain ⟨rfl, rfl⟩ := hw
  obtain ⟨-, hN⟩ := hBu
  rw [ht] at hN
  exact kk H1 locs1 ⟨hN.1, hN.2.1, hS1, hB⟩
theorem nf_callv (hr : va_Run p l e R s m args below meth c H locs cells slots 0 0 (F0 m pc ls st0) rest (va_Qv (fun (u : nf_I × nf_J × nf_P) => u = (I1, J1, P1)) (nf_U D cl tys Bs sh ad) (fun q => Bs ≤ q) a) (fun q => Bs ≤ q)) (hM : nf_M D cl Bs sh ad I J P H0 H locs)
    (kk : ∀ (H1 : Heap) (locs1 : List Loc), nf_M D cl Bs sh ad I1 J1 P1 H0 H1 locs1 → W p l e R s m args below meth c H1 locs1 cells slots Q (F0 m (pc + 3) ls rest)) : W p l e R s m args below meth c H locs cells slots Q (F0 m pc ls st0) := by
  obtain ⟨h1, h2, hS, hB⟩ := hM
  refine va_callv hr hS (fun q _ h => h) (fun q h => h) (fun u t H1 locs1 ht hvm hw hBu hz hk hS1 => ?_)
  subst hw
  obtain ⟨-, hN⟩ := hBu
  rw [ht] at hN
  exact kk H1 locs1 ⟨hN.1, hN.2.1, hS1, hB⟩
theorem nf_callq {r : Option Nat} (hr : va_Run p l e R s m args below meth c H locs cells slots 0 0 (F0 m pc ls st0) rest (va_Qq (fun (r' : Option Nat) (u : nf_I × nf_J × nf_P) => r' = r ∧ u = (I1, J1, P1)) (nf_U D cl tys Bs sh ad) (fun q => Bs ≤ q) a) (fun q => Bs ≤ q)) (hM : nf_M D cl Bs sh ad I J P H0 H locs)
    (kk : ∀ (H1 : Heap) (locs1 : List Loc), nf_M D cl Bs sh ad I1 J1 P1 H0 H1 locs1 → W p l e R s m args below meth c H1 locs1 cells slots Q (F0 m (pc + 3) ls (va_rf r :: rest))) : W p l e R s m args below meth c H locs cells slots Q (F0 m pc ls st0) := by
  obtain ⟨h1, h2, hS, hB⟩ := hM
  refine va_callq hr hS (fun q _ h => h) (fun q h => h) (fun r' u t H1 locs1 ht hvm hw hBu hz hk hS1 => ?_)
  obtain ⟨rfl, rfl⟩ := hw
  obtain ⟨-, hN⟩ := hBu
  rw [ht] at hN
  exact kk H1 locs1 ⟨hN.1, hN.2.1, hS1, hB⟩
end NCalls
end
