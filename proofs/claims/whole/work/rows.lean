section
-- ===== PART A: goes FIRST, ahead of the names: the tables' words, and 'selects' of the private methods out of them =====
/-- a private method of a class that the tables say can be made, by its rows of tables_1 -/
def lw_okq (q : MethodName × Nat) : Prop := (q.1.cls ≠ "java/lang/invoke/MethodHandle" ∧ q.1.cls ≠ "java/lang/invoke/VarHandle") ∧ Cond.instantiable q.1.cls q.2 ∈ tables_1 ∧ Cond.privateMethod q.1 ∈ tables_1 ∧ Cond.instanceMethod q.1 ∈ tables_1
theorem lw_p0 : lw_okq (⟨"FingerOverlay", "addNode", "(I)LFingerOverlay$Node;"⟩, 5) := ⟨⟨by decide +kernel, by decide +kernel⟩, List.mem_of_getElem? (i := 8) (by decide +kernel), List.mem_of_getElem? (i := 100) (by decide +kernel), List.mem_of_getElem? (i := 101) (by decide +kernel)⟩
theorem lw_p1 : lw_okq (⟨"FingerOverlay", "nodeWith", "(I)LFingerOverlay$Node;"⟩, 5) := ⟨⟨by decide +kernel, by decide +kernel⟩, List.mem_of_getElem? (i := 8) (by decide +kernel), List.mem_of_getElem? (i := 151) (by decide +kernel), List.mem_of_getElem? (i := 152) (by decide +kernel)⟩
theorem lw_p2 : lw_okq (⟨"FingerOverlay", "memberWith", "(I)LFingerOverlay$Node;"⟩, 5) := ⟨⟨by decide +kernel, by decide +kernel⟩, List.mem_of_getElem? (i := 8) (by decide +kernel), List.mem_of_getElem? (i := 155) (by decide +kernel), List.mem_of_getElem? (i := 156) (by decide +kernel)⟩
theorem lw_p3 : lw_okq (⟨"FingerOverlay", "sendFind", "(IIII)LFingerOverlay$Message;"⟩, 5) := ⟨⟨by decide +kernel, by decide +kernel⟩, List.mem_of_getElem? (i := 8) (by decide +kernel), List.mem_of_getElem? (i := 167) (by decide +kernel), List.mem_of_getElem? (i := 168) (by decide +kernel)⟩
theorem lw_p4 : lw_okq (⟨"FingerOverlay", "takeKey", "(I)Z"⟩, 5) := ⟨⟨by decide +kernel, by decide +kernel⟩, List.mem_of_getElem? (i := 8) (by decide +kernel), List.mem_of_getElem? (i := 193) (by decide +kernel), List.mem_of_getElem? (i := 194) (by decide +kernel)⟩
theorem lw_p5 : lw_okq (⟨"FingerOverlay", "slotOf", "(I)I"⟩, 5) := ⟨⟨by decide +kernel, by decide +kernel⟩, List.mem_of_getElem? (i := 8) (by decide +kernel), List.mem_of_getElem? (i := 197) (by decide +kernel), List.mem_of_getElem? (i := 198) (by decide +kernel)⟩
theorem lw_p6 : lw_okq (⟨"FingerOverlay", "arrive", "(I)I"⟩, 5) := ⟨⟨by decide +kernel, by decide +kernel⟩, List.mem_of_getElem? (i := 8) (by decide +kernel), List.mem_of_getElem? (i := 209) (by decide +kernel), List.mem_of_getElem? (i := 210) (by decide +kernel)⟩
theorem lw_p7 : lw_okq (⟨"FingerOverlay", "findArrives", "(LFingerOverlay$Node;LFingerOverlay$Message;)V"⟩, 5) := ⟨⟨by decide +kernel, by decide +kernel⟩, List.mem_of_getElem? (i := 8) (by decide +kernel), List.mem_of_getElem? (i := 221) (by decide +kernel), List.mem_of_getElem? (i := 222) (by decide +kernel)⟩
theorem lw_p8 : lw_okq (⟨"FingerOverlay", "passOn", "(LFingerOverlay$Node;LFingerOverlay$Message;)V"⟩, 5) := ⟨⟨by decide +kernel, by decide +kernel⟩, List.mem_of_getElem? (i := 8) (by decide +kernel), List.mem_of_getElem? (i := 231) (by decide +kernel), List.mem_of_getElem? (i := 232) (by decide +kernel)⟩
theorem lw_p9 : lw_okq (⟨"FingerOverlay", "foundArrives", "(LFingerOverlay$Node;LFingerOverlay$Message;)V"⟩, 5) := ⟨⟨by decide +kernel, by decide +kernel⟩, List.mem_of_getElem? (i := 8) (by decide +kernel), List.mem_of_getElem? (i := 241) (by decide +kernel), List.mem_of_getElem? (i := 242) (by decide +kernel)⟩
theorem lw_p10 : lw_okq (⟨"FingerOverlay", "storeArrives", "(LFingerOverlay$Node;LFingerOverlay$Message;)V"⟩, 5) := ⟨⟨by decide +kernel, by decide +kernel⟩, List.mem_of_getElem? (i := 8) (by decide +kernel), List.mem_of_getElem? (i := 245) (by decide +kernel), List.mem_of_getElem? (i := 246) (by decide +kernel)⟩
theorem lw_p11 : lw_okq (⟨"FingerOverlay", "fetchArrives", "(LFingerOverlay$Node;LFingerOverlay$Message;)V"⟩, 5) := ⟨⟨by decide +kernel, by decide +kernel⟩, List.mem_of_getElem? (i := 8) (by decide +kernel), List.mem_of_getElem? (i := 249) (by decide +kernel), List.mem_of_getElem? (i := 250) (by decide +kernel)⟩
theorem lw_p12 : lw_okq (⟨"FingerOverlay", "valueAt", "(LFingerOverlay$Node;I)J"⟩, 5) := ⟨⟨by decide +kernel, by decide +kernel⟩, List.mem_of_getElem? (i := 8) (by decide +kernel), List.mem_of_getElem? (i := 253) (by decide +kernel), List.mem_of_getElem? (i := 254) (by decide +kernel)⟩
theorem lw_p13 : lw_okq (⟨"FingerOverlay", "askArrives", "(LFingerOverlay$Node;LFingerOverlay$Message;)V"⟩, 5) := ⟨⟨by decide +kernel, by decide +kernel⟩, List.mem_of_getElem? (i := 8) (by decide +kernel), List.mem_of_getElem? (i := 258) (by decide +kernel), List.mem_of_getElem? (i := 259) (by decide +kernel)⟩
theorem lw_p14 : lw_okq (⟨"FingerOverlay", "tellArrives", "(LFingerOverlay$Node;LFingerOverlay$Message;)V"⟩, 5) := ⟨⟨by decide +kernel, by decide +kernel⟩, List.mem_of_getElem? (i := 8) (by decide +kernel), List.mem_of_getElem? (i := 262) (by decide +kernel), List.mem_of_getElem? (i := 263) (by decide +kernel)⟩
theorem lw_p15 : lw_okq (⟨"FingerOverlay", "notifyArrives", "(LFingerOverlay$Node;LFingerOverlay$Message;)V"⟩, 5) := ⟨⟨by decide +kernel, by decide +kernel⟩, List.mem_of_getElem? (i := 8) (by decide +kernel), List.mem_of_getElem? (i := 266) (by decide +kernel), List.mem_of_getElem? (i := 267) (by decide +kernel)⟩
def lw_privs_1 : List (MethodName × Nat) := [(⟨"FingerOverlay", "addNode", "(I)LFingerOverlay$Node;"⟩, 5), (⟨"FingerOverlay", "nodeWith", "(I)LFingerOverlay$Node;"⟩, 5), (⟨"FingerOverlay", "memberWith", "(I)LFingerOverlay$Node;"⟩, 5), (⟨"FingerOverlay", "sendFind", "(IIII)LFingerOverlay$Message;"⟩, 5), (⟨"FingerOverlay", "takeKey", "(I)Z"⟩, 5), (⟨"FingerOverlay", "slotOf", "(I)I"⟩, 5), (⟨"FingerOverlay", "arrive", "(I)I"⟩, 5), (⟨"FingerOverlay", "findArrives", "(LFingerOverlay$Node;LFingerOverlay$Message;)V"⟩, 5), (⟨"FingerOverlay", "passOn", "(LFingerOverlay$Node;LFingerOverlay$Message;)V"⟩, 5), (⟨"FingerOverlay", "foundArrives", "(LFingerOverlay$Node;LFingerOverlay$Message;)V"⟩, 5), (⟨"FingerOverlay", "storeArrives", "(LFingerOverlay$Node;LFingerOverlay$Message;)V"⟩, 5), (⟨"FingerOverlay", "fetchArrives", "(LFingerOverlay$Node;LFingerOverlay$Message;)V"⟩, 5), (⟨"FingerOverlay", "valueAt", "(LFingerOverlay$Node;I)J"⟩, 5), (⟨"FingerOverlay", "askArrives", "(LFingerOverlay$Node;LFingerOverlay$Message;)V"⟩, 5), (⟨"FingerOverlay", "tellArrives", "(LFingerOverlay$Node;LFingerOverlay$Message;)V"⟩, 5), (⟨"FingerOverlay", "notifyArrives", "(LFingerOverlay$Node;LFingerOverlay$Message;)V"⟩, 5)]
theorem lw_r1 : ∀ q ∈ lw_privs_1, lw_okq q := List.forall_mem_cons.mpr ⟨lw_p0, List.forall_mem_cons.mpr ⟨lw_p1, List.forall_mem_cons.mpr ⟨lw_p2, List.forall_mem_cons.mpr ⟨lw_p3, List.forall_mem_cons.mpr ⟨lw_p4, List.forall_mem_cons.mpr ⟨lw_p5, List.forall_mem_cons.mpr ⟨lw_p6, List.forall_mem_cons.mpr ⟨lw_p7, List.forall_mem_cons.mpr ⟨lw_p8, List.forall_mem_cons.mpr ⟨lw_p9, List.forall_mem_cons.mpr ⟨lw_p10, List.forall_mem_cons.mpr ⟨lw_p11, List.forall_mem_cons.mpr ⟨lw_p12, List.forall_mem_cons.mpr ⟨lw_p13, List.forall_mem_cons.mpr ⟨lw_p14, List.forall_mem_cons.mpr ⟨lw_p15, fun _ h => absurd h List.not_mem_nil⟩⟩⟩⟩⟩⟩⟩⟩⟩⟩⟩⟩⟩⟩⟩⟩
theorem lw_p16 : lw_okq (⟨"FingerOverlay", "handOver", "(LFingerOverlay$Node;LFingerOverlay$Node;)V"⟩, 5) := ⟨⟨by decide +kernel, by decide +kernel⟩, List.mem_of_getElem? (i := 8) (by decide +kernel), List.mem_of_getElem? (i := 270) (by decide +kernel), List.mem_of_getElem? (i := 271) (by decide +kernel)⟩
theorem lw_p17 : lw_okq (⟨"FingerOverlay", "firstUpFrom", "(I)I"⟩, 5) := ⟨⟨by decide +kernel, by decide +kernel⟩, List.mem_of_getElem? (i := 8) (by decide +kernel), List.mem_of_getElem? (i := 320) (by decide +kernel), List.mem_of_getElem? (i := 321) (by decide +kernel)⟩
theorem lw_p18 : lw_okq (⟨"FingerOverlay", "wrongPointers", "(LFingerOverlay$Node;)I"⟩, 5) := ⟨⟨by decide +kernel, by decide +kernel⟩, List.mem_of_getElem? (i := 8) (by decide +kernel), List.mem_of_getElem? (i := 328) (by decide +kernel), List.mem_of_getElem? (i := 329) (by decide +kernel)⟩
theorem lw_p19 : lw_okq (⟨"FingerOverlay", "firstDownFrom", "(I)I"⟩, 5) := ⟨⟨by decide +kernel, by decide +kernel⟩, List.mem_of_getElem? (i := 8) (by decide +kernel), List.mem_of_getElem? (i := 332) (by decide +kernel), List.mem_of_getElem? (i := 333) (by decide +kernel)⟩
theorem lw_p20 : lw_okq (⟨"FingerOverlayModel", "isMember", "(I)Z"⟩, 22) := ⟨⟨by decide +kernel, by decide +kernel⟩, List.mem_of_getElem? (i := 340) (by decide +kernel), List.mem_of_getElem? (i := 425) (by decide +kernel), List.mem_of_getElem? (i := 426) (by decide +kernel)⟩
theorem lw_p21 : lw_okq (⟨"FingerOverlayModel", "ask", "(IIIIJ)V"⟩, 22) := ⟨⟨by decide +kernel, by decide +kernel⟩, List.mem_of_getElem? (i := 340) (by decide +kernel), List.mem_of_getElem? (i := 429) (by decide +kernel), List.mem_of_getElem? (i := 430) (by decide +kernel)⟩
theorem lw_p22 : lw_okq (⟨"FingerOverlayModel", "post", "(IIII)V"⟩, 22) := ⟨⟨by decide +kernel, by decide +kernel⟩, List.mem_of_getElem? (i := 340) (by decide +kernel), List.mem_of_getElem? (i := 433) (by decide +kernel), List.mem_of_getElem? (i := 434) (by decide +kernel)⟩
theorem lw_p23 : lw_okq (⟨"FingerOverlayModel", "arrive", "(I)V"⟩, 22) := ⟨⟨by decide +kernel, by decide +kernel⟩, List.mem_of_getElem? (i := 340) (by decide +kernel), List.mem_of_getElem? (i := 457) (by decide +kernel), List.mem_of_getElem? (i := 458) (by decide +kernel)⟩
theorem lw_p24 : lw_okq (⟨"FingerOverlayModel", "copy", "(II)V"⟩, 22) := ⟨⟨by decide +kernel, by decide +kernel⟩, List.mem_of_getElem? (i := 340) (by decide +kernel), List.mem_of_getElem? (i := 461) (by decide +kernel), List.mem_of_getElem? (i := 462) (by decide +kernel)⟩
theorem lw_p25 : lw_okq (⟨"FingerOverlayModel", "find", "(I)V"⟩, 22) := ⟨⟨by decide +kernel, by decide +kernel⟩, List.mem_of_getElem? (i := 340) (by decide +kernel), List.mem_of_getElem? (i := 465) (by decide +kernel), List.mem_of_getElem? (i := 466) (by decide +kernel)⟩
theorem lw_p26 : lw_okq (⟨"FingerOverlayModel", "found", "(I)V"⟩, 22) := ⟨⟨by decide +kernel, by decide +kernel⟩, List.mem_of_getElem? (i := 340) (by decide +kernel), List.mem_of_getElem? (i := 475) (by decide +kernel), List.mem_of_getElem? (i := 476) (by decide +kernel)⟩
theorem lw_p27 : lw_okq (⟨"FingerOverlayModel", "keep", "(III)V"⟩, 22) := ⟨⟨by decide +kernel, by decide +kernel⟩, List.mem_of_getElem? (i := 340) (by decide +kernel), List.mem_of_getElem? (i := 479) (by decide +kernel), List.mem_of_getElem? (i := 480) (by decide +kernel)⟩
theorem lw_p28 : lw_okq (⟨"FingerOverlayModel", "entryAt", "(II)I"⟩, 22) := ⟨⟨by decide +kernel, by decide +kernel⟩, List.mem_of_getElem? (i := 340) (by decide +kernel), List.mem_of_getElem? (i := 483) (by decide +kernel), List.mem_of_getElem? (i := 484) (by decide +kernel)⟩
theorem lw_p29 : lw_okq (⟨"FingerOverlayModel", "fetch", "(I)V"⟩, 22) := ⟨⟨by decide +kernel, by decide +kernel⟩, List.mem_of_getElem? (i := 340) (by decide +kernel), List.mem_of_getElem? (i := 487) (by decide +kernel), List.mem_of_getElem? (i := 488) (by decide +kernel)⟩
theorem lw_p30 : lw_okq (⟨"FingerOverlayModel", "tell", "(I)V"⟩, 22) := ⟨⟨by decide +kernel, by decide +kernel⟩, List.mem_of_getElem? (i := 340) (by decide +kernel), List.mem_of_getElem? (i := 492) (by decide +kernel), List.mem_of_getElem? (i := 493) (by decide +kernel)⟩
theorem lw_p31 : lw_okq (⟨"FingerOverlayModel", "notified", "(I)V"⟩, 22) := ⟨⟨by decide +kernel, by decide +kernel⟩, List.mem_of_getElem? (i := 340) (by decide +kernel), List.mem_of_getElem? (i := 496) (by decide +kernel), List.mem_of_getElem? (i := 497) (by decide +kernel)⟩
def lw_privs_2 : List (MethodName × Nat) := [(⟨"FingerOverlay", "handOver", "(LFingerOverlay$Node;LFingerOverlay$Node;)V"⟩, 5), (⟨"FingerOverlay", "firstUpFrom", "(I)I"⟩, 5), (⟨"FingerOverlay", "wrongPointers", "(LFingerOverlay$Node;)I"⟩, 5), (⟨"FingerOverlay", "firstDownFrom", "(I)I"⟩, 5), (⟨"FingerOverlayModel", "isMember", "(I)Z"⟩, 22), (⟨"FingerOverlayModel", "ask", "(IIIIJ)V"⟩, 22), (⟨"FingerOverlayModel", "post", "(IIII)V"⟩, 22), (⟨"FingerOverlayModel", "arrive", "(I)V"⟩, 22), (⟨"FingerOverlayModel", "copy", "(II)V"⟩, 22), (⟨"FingerOverlayModel", "find", "(I)V"⟩, 22), (⟨"FingerOverlayModel", "found", "(I)V"⟩, 22), (⟨"FingerOverlayModel", "keep", "(III)V"⟩, 22), (⟨"FingerOverlayModel", "entryAt", "(II)I"⟩, 22), (⟨"FingerOverlayModel", "fetch", "(I)V"⟩, 22), (⟨"FingerOverlayModel", "tell", "(I)V"⟩, 22), (⟨"FingerOverlayModel", "notified", "(I)V"⟩, 22)]
theorem lw_r2 : ∀ q ∈ lw_privs_2, lw_okq q := List.forall_mem_cons.mpr ⟨lw_p16, List.forall_mem_cons.mpr ⟨lw_p17, List.forall_mem_cons.mpr ⟨lw_p18, List.forall_mem_cons.mpr ⟨lw_p19, List.forall_mem_cons.mpr ⟨lw_p20, List.forall_mem_cons.mpr ⟨lw_p21, List.forall_mem_cons.mpr ⟨lw_p22, List.forall_mem_cons.mpr ⟨lw_p23, List.forall_mem_cons.mpr ⟨lw_p24, List.forall_mem_cons.mpr ⟨lw_p25, List.forall_mem_cons.mpr ⟨lw_p26, List.forall_mem_cons.mpr ⟨lw_p27, List.forall_mem_cons.mpr ⟨lw_p28, List.forall_mem_cons.mpr ⟨lw_p29, List.forall_mem_cons.mpr ⟨lw_p30, List.forall_mem_cons.mpr ⟨lw_p31, fun _ h => absurd h List.not_mem_nil⟩⟩⟩⟩⟩⟩⟩⟩⟩⟩⟩⟩⟩⟩⟩⟩
theorem lw_p32 : lw_okq (⟨"FingerOverlayModel", "handOver", "(II)V"⟩, 22) := ⟨⟨by decide +kernel, by decide +kernel⟩, List.mem_of_getElem? (i := 340) (by decide +kernel), List.mem_of_getElem? (i := 500) (by decide +kernel), List.mem_of_getElem? (i := 501) (by decide +kernel)⟩
theorem lw_p33 : lw_okq (⟨"FingerOverlayModel", "dropEntry", "(I)V"⟩, 22) := ⟨⟨by decide +kernel, by decide +kernel⟩, List.mem_of_getElem? (i := 340) (by decide +kernel), List.mem_of_getElem? (i := 504) (by decide +kernel), List.mem_of_getElem? (i := 505) (by decide +kernel)⟩
theorem lw_p34 : lw_okq (⟨"FingerOverlayModel", "first", "(II)I"⟩, 22) := ⟨⟨by decide +kernel, by decide +kernel⟩, List.mem_of_getElem? (i := 340) (by decide +kernel), List.mem_of_getElem? (i := 552) (by decide +kernel), List.mem_of_getElem? (i := 553) (by decide +kernel)⟩
def lw_privs_3 : List (MethodName × Nat) := [(⟨"FingerOverlayModel", "handOver", "(II)V"⟩, 22), (⟨"FingerOverlayModel", "dropEntry", "(I)V"⟩, 22), (⟨"FingerOverlayModel", "first", "(II)I"⟩, 22)]
theorem lw_r3 : ∀ q ∈ lw_privs_3, lw_okq q := List.forall_mem_cons.mpr ⟨lw_p32, List.forall_mem_cons.mpr ⟨lw_p33, List.forall_mem_cons.mpr ⟨lw_p34, fun _ h => absurd h List.not_mem_nil⟩⟩⟩
def lw_privs : List (MethodName × Nat) := lw_privs_1 ++ (lw_privs_2 ++ (lw_privs_3))
def lw_tbl : List Cond := k2_sels lw_privs ++ tables_1
theorem lw_privs_ok : ∀ q ∈ lw_privs, lw_okq q := by
  show ∀ q ∈ lw_privs_1 ++ (lw_privs_2 ++ (lw_privs_3)), lw_okq q
  exact List.forall_mem_append.mpr ⟨lw_r1, List.forall_mem_append.mpr ⟨lw_r2, lw_r3⟩⟩
end
section
/-! Names: classes, fields, methods; the words of the tables that the methods need. Written by a program out of the claim. -/
def RX0 : String := "FingerOverlay$Message"
def TX0 : u_T := fun k => match k with
  | 0 => ("FingerOverlay$Message", "kind", "I", false)
  | 1 => ("FingerOverlay$Message", "to", "I", false)
  | 2 => ("FingerOverlay$Message", "asker", "I", false)
  | 3 => ("FingerOverlay$Message", "purpose", "I", false)
  | 4 => ("FingerOverlay$Message", "key", "I", false)
  | 5 => ("FingerOverlay$Message", "finger", "I", false)
  | 6 => ("FingerOverlay$Message", "member", "I", false)
  | 7 => ("FingerOverlay$Message", "hops", "I", false)
  | _ => ("FingerOverlay$Message", "value", "J", false)
def tyX0 : Nat → FieldType := fun k => match k with
  | 0 => .int
  | 1 => .int
  | 2 => .int
  | 3 => .int
  | 4 => .int
  | 5 => .int
  | 6 => .int
  | 7 => .int
  | _ => .long
theorem nmX0 : ∀ a, a < 9 → ∀ b, b < 9 → a ≠ b → (TX0 a).2.1 ≠ (TX0 b).2.1 := by decide +kernel
theorem tyX0_ok : ∀ k, k < 9 → parseFieldDescriptor (TX0 k).2.2.1 = some (tyX0 k) := by decide +kernel
def RX1 : String := "FingerOverlay$Node"
def TX1 : u_T := fun k => match k with
  | 0 => ("FingerOverlay$Node", "id", "I", true)
  | 1 => ("FingerOverlay$Node", "successor", "I", false)
  | 2 => ("FingerOverlay$Node", "predecessor", "I", false)
  | 3 => ("FingerOverlay$Node", "fingers", "[I", true)
  | 4 => ("FingerOverlay$Node", "values", "[J", true)
  | 5 => ("FingerOverlay$Node", "answer", "J", false)
  | _ => ("FingerOverlay$Node", "hops", "I", false)
def tyX1 : Nat → FieldType := fun k => match k with
  | 0 => .int
  | 1 => .int
  | 2 => .int
  | 3 => .array (.int)
  | 4 => .array (.long)
  | 5 => .long
  | _ => .int
theorem nmX1 : ∀ a, a < 7 → ∀ b, b < 7 → a ≠ b → (TX1 a).2.1 ≠ (TX1 b).2.1 := by decide +kernel
theorem tyX1_ok : ∀ k, k < 7 → parseFieldDescriptor (TX1 k).2.2.1 = some (tyX1 k) := by decide +kernel
def RX2 : String := "FingerOverlay$Row"
def TX2 : u_T := fun k => match k with
  | 0 => ("FingerOverlay$Row", "messages", "[LFingerOverlay$Message;", true)
  | _ => ("FingerOverlay$Row", "size", "I", false)
def tyX2 : Nat → FieldType := fun k => match k with
  | 0 => .array (.object "FingerOverlay$Message")
  | _ => .int
theorem nmX2 : ∀ a, a < 2 → ∀ b, b < 2 → a ≠ b → (TX2 a).2.1 ≠ (TX2 b).2.1 := by decide +kernel
theorem tyX2_ok : ∀ k, k < 2 → parseFieldDescriptor (TX2 k).2.2.1 = some (tyX2 k) := by decide +kernel
def RX3 : String := "FingerOverlay"
def TX3 : u_T := fun k => match k with
  | 0 => ("FingerOverlay", "nodes", "[LFingerOverlay$Node;", true)
  | 1 => ("FingerOverlay", "nodeCount", "I", false)
  | 2 => ("FingerOverlay", "keys", "[I", true)
  | 3 => ("FingerOverlay", "keyCount", "I", false)
  | _ => ("FingerOverlay", "row", "LFingerOverlay$Row;", true)
def tyX3 : Nat → FieldType := fun k => match k with
  | 0 => .array (.object "FingerOverlay$Node")
  | 1 => .int
  | 2 => .array (.int)
  | 3 => .int
  | _ => .object "FingerOverlay$Row"
theorem nmX3 : ∀ a, a < 5 → ∀ b, b < 5 → a ≠ b → (TX3 a).2.1 ≠ (TX3 b).2.1 := by decide +kernel
theorem tyX3_ok : ∀ k, k < 5 → parseFieldDescriptor (TX3 k).2.2.1 = some (tyX3 k) := by decide +kernel
def RX4 : String := "FingerOverlayModel"
def TX4 : u_T := fun k => match k with
  | 0 => ("FingerOverlayModel", "nodes", "I", false)
  | 1 => ("FingerOverlayModel", "rank", "[I", false)
  | 2 => ("FingerOverlayModel", "after", "[I", false)
  | 3 => ("FingerOverlayModel", "before", "[I", false)
  | 4 => ("FingerOverlayModel", "pointer", "[I", false)
  | 5 => ("FingerOverlayModel", "told", "[J", false)
  | 6 => ("FingerOverlayModel", "way", "[I", false)
  | 7 => ("FingerOverlayModel", "kept", "I", false)
  | 8 => ("FingerOverlayModel", "keptAt", "[I", false)
  | 9 => ("FingerOverlayModel", "keptKey", "[I", false)
  | 10 => ("FingerOverlayModel", "keptValue", "[I", false)
  | 11 => ("FingerOverlayModel", "keys", "I", false)
  | 12 => ("FingerOverlayModel", "putKey", "[I", false)
  | 13 => ("FingerOverlayModel", "row", "I", false)
  | 14 => ("FingerOverlayModel", "kind", "[I", false)
  | 15 => ("FingerOverlayModel", "to", "[I", false)
  | 16 => ("FingerOverlayModel", "key", "[I", false)
  | 17 => ("FingerOverlayModel", "purpose", "[I", false)
  | 18 => ("FingerOverlayModel", "part", "[I", false)
  | 19 => ("FingerOverlayModel", "asker", "[I", false)
  | 20 => ("FingerOverlayModel", "hop", "[I", false)
  | _ => ("FingerOverlayModel", "brings", "[J", false)
def tyX4 : Nat → FieldType := fun k => match k with
  | 0 => .int
  | 1 => .array (.int)
  | 2 => .array (.int)
  | 3 => .array (.int)
  | 4 => .array (.int)
  | 5 => .array (.long)
  | 6 => .array (.int)
  | 7 => .int
  | 8 => .array (.int)
  | 9 => .array (.int)
  | 10 => .array (.int)
  | 11 => .int
  | 12 => .array (.int)
  | 13 => .int
  | 14 => .array (.int)
  | 15 => .array (.int)
  | 16 => .array (.int)
  | 17 => .array (.int)
  | 18 => .array (.int)
  | 19 => .array (.int)
  | 20 => .array (.int)
  | _ => .array (.long)
theorem nmX4 : ∀ a, a < 22 → ∀ b, b < 22 → a ≠ b → (TX4 a).2.1 ≠ (TX4 b).2.1 := by decide +kernel
theorem tyX4_ok : ∀ k, k < 22 → parseFieldDescriptor (TX4 k).2.2.1 = some (tyX4 k) := by decide +kernel
def RL : String := "FingerOverlayLaw"
def RJ7 : String := "java/util/Arrays"
def ROB : String := "java/lang/Object"
abbrev cX3_init : ByteArray := prog_1_method_1_code
def yX3_init : MethodName := ⟨RX3, "<init>", "()V"⟩
abbrev cOB_init : ByteArray := object_method_1_code
def yOB_init : MethodName := ⟨ROB, "<init>", "()V"⟩
abbrev cX2_init : ByteArray := prog_4_method_1_code
def yX2_init : MethodName := ⟨RX2, "<init>", "()V"⟩
abbrev cX0_init : ByteArray := prog_2_method_1_code
def yX0_init : MethodName := ⟨RX0, "<init>", "()V"⟩
abbrev cX3_create : ByteArray := prog_1_method_2_code
def yX3_create : MethodName := ⟨RX3, "create", "(I)Z"⟩
abbrev cX3_isId : ByteArray := prog_1_method_22_code
def yX3_isId : MethodName := ⟨RX3, "isId", "(I)Z"⟩
abbrev cX3_addNode : ByteArray := prog_1_method_28_code
def yX3_addNode : MethodName := ⟨RX3, "addNode", "(I)LFingerOverlay$Node;"⟩
abbrev cX1_init : ByteArray := prog_3_method_1_code
def yX1_init : MethodName := ⟨RX1, "<init>", "(I)V"⟩
abbrev cJ7_filli : ByteArray := prog_7_method_103_code
def yJ7_filli : MethodName := ⟨RJ7, "fill", "([II)V"⟩
abbrev cJ7_filll : ByteArray := prog_7_method_101_code
def yJ7_filll : MethodName := ⟨RJ7, "fill", "([JJ)V"⟩
abbrev cX3_join : ByteArray := prog_1_method_3_code
def yX3_join : MethodName := ⟨RX3, "join", "(II)Z"⟩
abbrev cX3_nodeWith : ByteArray := prog_1_method_29_code
def yX3_nodeWith : MethodName := ⟨RX3, "nodeWith", "(I)LFingerOverlay$Node;"⟩
abbrev cX3_memberWith : ByteArray := prog_1_method_30_code
def yX3_memberWith : MethodName := ⟨RX3, "memberWith", "(I)LFingerOverlay$Node;"⟩
abbrev cX1_isMember : ByteArray := prog_3_method_2_code
def yX1_isMember : MethodName := ⟨RX1, "isMember", "()Z"⟩
abbrev cX2_isFull : ByteArray := prog_4_method_2_code
def yX2_isFull : MethodName := ⟨RX2, "isFull", "()Z"⟩
abbrev cX3_sendFind : ByteArray := prog_1_method_37_code
def yX3_sendFind : MethodName := ⟨RX3, "sendFind", "(IIII)LFingerOverlay$Message;"⟩
abbrev cX2_send : ByteArray := prog_4_method_5_code
def yX2_send : MethodName := ⟨RX2, "send", "(II)LFingerOverlay$Message;"⟩
abbrev cX3_stabilise : ByteArray := prog_1_method_4_code
def yX3_stabilise : MethodName := ⟨RX3, "stabilise", "(I)Z"⟩
abbrev cX3_fix : ByteArray := prog_1_method_5_code
def yX3_fix : MethodName := ⟨RX3, "fix", "(II)Z"⟩
abbrev cX3_isFinger : ByteArray := prog_1_method_23_code
def yX3_isFinger : MethodName := ⟨RX3, "isFinger", "(I)Z"⟩
abbrev cX3_fingerStart : ByteArray := prog_1_method_24_code
def yX3_fingerStart : MethodName := ⟨RX3, "fingerStart", "(II)I"⟩
abbrev cX3_put : ByteArray := prog_1_method_6_code
def yX3_put : MethodName := ⟨RX3, "put", "(III)Z"⟩
abbrev cX3_takeKey : ByteArray := prog_1_method_35_code
def yX3_takeKey : MethodName := ⟨RX3, "takeKey", "(I)Z"⟩
abbrev cX3_slotOf : ByteArray := prog_1_method_34_code
def yX3_slotOf : MethodName := ⟨RX3, "slotOf", "(I)I"⟩
abbrev cX3_get : ByteArray := prog_1_method_7_code
def yX3_get : MethodName := ⟨RX3, "get", "(II)Z"⟩
abbrev cX3_deliver : ByteArray := prog_1_method_8_code
def yX3_deliver : MethodName := ⟨RX3, "deliver", "(I)I"⟩
abbrev cX3_arrive : ByteArray := prog_1_method_38_code
def yX3_arrive : MethodName := ⟨RX3, "arrive", "(I)I"⟩
abbrev cX2_takeOut : ByteArray := prog_4_method_4_code
def yX2_takeOut : MethodName := ⟨RX2, "takeOut", "(I)LFingerOverlay$Message;"⟩
abbrev cX2_at : ByteArray := prog_4_method_3_code
def yX2_at : MethodName := ⟨RX2, "at", "(I)LFingerOverlay$Message;"⟩
abbrev cX3_findArrives : ByteArray := prog_1_method_39_code
def yX3_findArrives : MethodName := ⟨RX3, "findArrives", "(LFingerOverlay$Node;LFingerOverlay$Message;)V"⟩
abbrev cX3_isPastUpTo : ByteArray := prog_1_method_26_code
def yX3_isPastUpTo : MethodName := ⟨RX3, "isPastUpTo", "(III)Z"⟩
abbrev cX3_stepsUp : ByteArray := prog_1_method_25_code
def yX3_stepsUp : MethodName := ⟨RX3, "stepsUp", "(II)I"⟩
abbrev cX3_passOn : ByteArray := prog_1_method_40_code
def yX3_passOn : MethodName := ⟨RX3, "passOn", "(LFingerOverlay$Node;LFingerOverlay$Message;)V"⟩
abbrev cX3_nextTowards : ByteArray := prog_1_method_41_code
def yX3_nextTowards : MethodName := ⟨RX3, "nextTowards", "(LFingerOverlay$Node;I)I"⟩
abbrev cX3_isBetween : ByteArray := prog_1_method_27_code
def yX3_isBetween : MethodName := ⟨RX3, "isBetween", "(III)Z"⟩
abbrev cX3_foundArrives : ByteArray := prog_1_method_42_code
def yX3_foundArrives : MethodName := ⟨RX3, "foundArrives", "(LFingerOverlay$Node;LFingerOverlay$Message;)V"⟩
abbrev cX3_storeArrives : ByteArray := prog_1_method_43_code
def yX3_storeArrives : MethodName := ⟨RX3, "storeArrives", "(LFingerOverlay$Node;LFingerOverlay$Message;)V"⟩
abbrev cX3_fetchArrives : ByteArray := prog_1_method_44_code
def yX3_fetchArrives : MethodName := ⟨RX3, "fetchArrives", "(LFingerOverlay$Node;LFingerOverlay$Message;)V"⟩
abbrev cX3_valueAt : ByteArray := prog_1_method_36_code
def yX3_valueAt : MethodName := ⟨RX3, "valueAt", "(LFingerOverlay$Node;I)J"⟩
abbrev cX3_askArrives : ByteArray := prog_1_method_45_code
def yX3_askArrives : MethodName := ⟨RX3, "askArrives", "(LFingerOverlay$Node;LFingerOverlay$Message;)V"⟩
abbrev cX3_tellArrives : ByteArray := prog_1_method_46_code
def yX3_tellArrives : MethodName := ⟨RX3, "tellArrives", "(LFingerOverlay$Node;LFingerOverlay$Message;)V"⟩
abbrev cX3_notifyArrives : ByteArray := prog_1_method_47_code
def yX3_notifyArrives : MethodName := ⟨RX3, "notifyArrives", "(LFingerOverlay$Node;LFingerOverlay$Message;)V"⟩
abbrev cX3_handOver : ByteArray := prog_1_method_48_code
def yX3_handOver : MethodName := ⟨RX3, "handOver", "(LFingerOverlay$Node;LFingerOverlay$Node;)V"⟩
abbrev cX3_pump : ByteArray := prog_1_method_9_code
def yX3_pump : MethodName := ⟨RX3, "pump", "(I)I"⟩
abbrev cX3_flying : ByteArray := prog_1_method_10_code
def yX3_flying : MethodName := ⟨RX3, "flying", "()I"⟩
abbrev cX3_message : ByteArray := prog_1_method_11_code
def yX3_message : MethodName := ⟨RX3, "message", "(I)I"⟩
abbrev cX3_successor : ByteArray := prog_1_method_12_code
def yX3_successor : MethodName := ⟨RX3, "successor", "(I)I"⟩
abbrev cX3_predecessor : ByteArray := prog_1_method_13_code
def yX3_predecessor : MethodName := ⟨RX3, "predecessor", "(I)I"⟩
abbrev cX3_finger : ByteArray := prog_1_method_14_code
def yX3_finger : MethodName := ⟨RX3, "finger", "(II)I"⟩
abbrev cX3_entry : ByteArray := prog_1_method_15_code
def yX3_entry : MethodName := ⟨RX3, "entry", "(II)J"⟩
abbrev cX3_entries : ByteArray := prog_1_method_16_code
def yX3_entries : MethodName := ⟨RX3, "entries", "(I)I"⟩
abbrev cX3_answer : ByteArray := prog_1_method_17_code
def yX3_answer : MethodName := ⟨RX3, "answer", "(I)J"⟩
abbrev cX3_hops : ByteArray := prog_1_method_18_code
def yX3_hops : MethodName := ⟨RX3, "hops", "(I)I"⟩
abbrev cX3_owner : ByteArray := prog_1_method_19_code
def yX3_owner : MethodName := ⟨RX3, "owner", "(I)I"⟩
abbrev cX3_firstUpFrom : ByteArray := prog_1_method_31_code
def yX3_firstUpFrom : MethodName := ⟨RX3, "firstUpFrom", "(I)I"⟩
abbrev cX3_wrong : ByteArray := prog_1_method_20_code
def yX3_wrong : MethodName := ⟨RX3, "wrong", "()I"⟩
abbrev cX3_wrongPointers : ByteArray := prog_1_method_33_code
def yX3_wrongPointers : MethodName := ⟨RX3, "wrongPointers", "(LFingerOverlay$Node;)I"⟩
abbrev cX3_firstDownFrom : ByteArray := prog_1_method_32_code
def yX3_firstDownFrom : MethodName := ⟨RX3, "firstDownFrom", "(I)I"⟩
abbrev cX3_misplaced : ByteArray := prog_1_method_21_code
def yX3_misplaced : MethodName := ⟨RX3, "misplaced", "()I"⟩
abbrev cX4_init : ByteArray := prog_6_method_1_code
def yX4_init : MethodName := ⟨RX4, "<init>", "()V"⟩
abbrev cX4_create : ByteArray := prog_6_method_10_code
def yX4_create : MethodName := ⟨RX4, "create", "(I)Z"⟩
abbrev cX4_isId : ByteArray := prog_6_method_2_code
def yX4_isId : MethodName := ⟨RX4, "isId", "(I)Z"⟩
abbrev cX4_join : ByteArray := prog_6_method_11_code
def yX4_join : MethodName := ⟨RX4, "join", "(II)Z"⟩
abbrev cX4_isMember : ByteArray := prog_6_method_3_code
def yX4_isMember : MethodName := ⟨RX4, "isMember", "(I)Z"⟩
abbrev cX4_ask : ByteArray := prog_6_method_9_code
def yX4_ask : MethodName := ⟨RX4, "ask", "(IIIIJ)V"⟩
abbrev cX4_post : ByteArray := prog_6_method_7_code
def yX4_post : MethodName := ⟨RX4, "post", "(IIII)V"⟩
abbrev cX4_stabilise : ByteArray := prog_6_method_12_code
def yX4_stabilise : MethodName := ⟨RX4, "stabilise", "(I)Z"⟩
abbrev cX4_fix : ByteArray := prog_6_method_13_code
def yX4_fix : MethodName := ⟨RX4, "fix", "(II)Z"⟩
abbrev cX4_put : ByteArray := prog_6_method_14_code
def yX4_put : MethodName := ⟨RX4, "put", "(III)Z"⟩
abbrev cX4_get : ByteArray := prog_6_method_15_code
def yX4_get : MethodName := ⟨RX4, "get", "(II)Z"⟩
abbrev cX4_deliver : ByteArray := prog_6_method_26_code
def yX4_deliver : MethodName := ⟨RX4, "deliver", "(I)I"⟩
abbrev cX4_arrive : ByteArray := prog_6_method_20_code
def yX4_arrive : MethodName := ⟨RX4, "arrive", "(I)V"⟩
abbrev cX4_copy : ByteArray := prog_6_method_8_code
def yX4_copy : MethodName := ⟨RX4, "copy", "(II)V"⟩
abbrev cX4_find : ByteArray := prog_6_method_21_code
def yX4_find : MethodName := ⟨RX4, "find", "(I)V"⟩
abbrev cX4_past : ByteArray := prog_6_method_4_code
def yX4_past : MethodName := ⟨RX4, "past", "(III)Z"⟩
abbrev cX4_between : ByteArray := prog_6_method_5_code
def yX4_between : MethodName := ⟨RX4, "between", "(III)Z"⟩
abbrev cX4_found : ByteArray := prog_6_method_22_code
def yX4_found : MethodName := ⟨RX4, "found", "(I)V"⟩
abbrev cX4_keep : ByteArray := prog_6_method_17_code
def yX4_keep : MethodName := ⟨RX4, "keep", "(III)V"⟩
abbrev cX4_entryAt : ByteArray := prog_6_method_16_code
def yX4_entryAt : MethodName := ⟨RX4, "entryAt", "(II)I"⟩
abbrev cX4_fetch : ByteArray := prog_6_method_23_code
def yX4_fetch : MethodName := ⟨RX4, "fetch", "(I)V"⟩
abbrev cX4_tell : ByteArray := prog_6_method_24_code
def yX4_tell : MethodName := ⟨RX4, "tell", "(I)V"⟩
abbrev cX4_notified : ByteArray := prog_6_method_25_code
def yX4_notified : MethodName := ⟨RX4, "notified", "(I)V"⟩
abbrev cX4_handOver : ByteArray := prog_6_method_19_code
def yX4_handOver : MethodName := ⟨RX4, "handOver", "(II)V"⟩
abbrev cX4_dropEntry : ByteArray := prog_6_method_18_code
def yX4_dropEntry : MethodName := ⟨RX4, "dropEntry", "(I)V"⟩
abbrev cX4_pump : ByteArray := prog_6_method_27_code
def yX4_pump : MethodName := ⟨RX4, "pump", "(I)I"⟩
abbrev cX4_flying : ByteArray := prog_6_method_28_code
def yX4_flying : MethodName := ⟨RX4, "flying", "()I"⟩
abbrev cX4_message : ByteArray := prog_6_method_29_code
def yX4_message : MethodName := ⟨RX4, "message", "(I)I"⟩
abbrev cX4_successor : ByteArray := prog_6_method_30_code
def yX4_successor : MethodName := ⟨RX4, "successor", "(I)I"⟩
abbrev cX4_predecessor : ByteArray := prog_6_method_31_code
def yX4_predecessor : MethodName := ⟨RX4, "predecessor", "(I)I"⟩
abbrev cX4_finger : ByteArray := prog_6_method_32_code
def yX4_finger : MethodName := ⟨RX4, "finger", "(II)I"⟩
abbrev cX4_entry : ByteArray := prog_6_method_33_code
def yX4_entry : MethodName := ⟨RX4, "entry", "(II)J"⟩
abbrev cX4_entries : ByteArray := prog_6_method_34_code
def yX4_entries : MethodName := ⟨RX4, "entries", "(I)I"⟩
abbrev cX4_answer : ByteArray := prog_6_method_35_code
def yX4_answer : MethodName := ⟨RX4, "answer", "(I)J"⟩
abbrev cX4_hops : ByteArray := prog_6_method_36_code
def yX4_hops : MethodName := ⟨RX4, "hops", "(I)I"⟩
abbrev cX4_owner : ByteArray := prog_6_method_37_code
def yX4_owner : MethodName := ⟨RX4, "owner", "(I)I"⟩
abbrev cX4_first : ByteArray := prog_6_method_6_code
def yX4_first : MethodName := ⟨RX4, "first", "(II)I"⟩
abbrev cX4_wrong : ByteArray := prog_6_method_38_code
def yX4_wrong : MethodName := ⟨RX4, "wrong", "()I"⟩
abbrev cX4_misplaced : ByteArray := prog_6_method_39_code
def yX4_misplaced : MethodName := ⟨RX4, "misplaced", "()I"⟩
abbrev cL_law : ByteArray := code
def wT : List Cond := lw_tbl.filter goodWord
theorem wt_in {w : Cond} (i : Nat) (h : lw_tbl[i]? = some w) (hg : goodWord w = true) : w ∈ wT := List.mem_filter.mpr ⟨List.mem_of_getElem? h, hg⟩
theorem wt_good {w : Cond} (h : w ∈ wT) : (w.onTables && w.keeps) = true ∨ ∃ ty, w = .arrayClass ty := good_of_word (List.mem_filter.mp h).2
theorem wt_tbl {w : Cond} (h : w ∈ wT) : w ∈ lw_tbl := (List.mem_filter.mp h).1
def wsX3_init : List Cond := .code yX3_init cX3_init 1 none :: wT
def wsX2_init : List Cond := .code yX2_init cX2_init 2 none :: wT
def wsX0_init : List Cond := .code yX0_init cX0_init 1 none :: wT
def wsX3_create : List Cond := .code yX3_create cX3_create 3 (some .boolean) :: wT
def wsX3_isId : List Cond := .code yX3_isId cX3_isId 1 (some .boolean) :: wT
def wsX3_addNode : List Cond := .code yX3_addNode cX3_addNode 3 (some (.object "FingerOverlay$Node")) :: wT
def wsX1_init : List Cond := .code yX1_init cX1_init 2 none :: wT
def wsJ7_filli : List Cond := .code yJ7_filli cJ7_filli 4 none :: wT
def wsJ7_filll : List Cond := .code yJ7_filll cJ7_filll 5 none :: wT
def wsX3_join : List Cond := .code yX3_join cX3_join 3 (some .boolean) :: wT
def wsX3_nodeWith : List Cond := .code yX3_nodeWith cX3_nodeWith 3 (some (.object "FingerOverlay$Node")) :: wT
def wsX3_memberWith : List Cond := .code yX3_memberWith cX3_memberWith 3 (some (.object "FingerOverlay$Node")) :: wT
def wsX1_isMember : List Cond := .code yX1_isMember cX1_isMember 1 (some .boolean) :: wT
def wsX2_isFull : List Cond := .code yX2_isFull cX2_isFull 1 (some .boolean) :: wT
def wsX3_sendFind : List Cond := .code yX3_sendFind cX3_sendFind 6 (some (.object "FingerOverlay$Message")) :: wT
def wsX2_send : List Cond := .code yX2_send cX2_send 4 (some (.object "FingerOverlay$Message")) :: wT
def wsX3_stabilise : List Cond := .code yX3_stabilise cX3_stabilise 4 (some .boolean) :: wT
def wsX3_fix : List Cond := .code yX3_fix cX3_fix 4 (some .boolean) :: wT
def wsX3_isFinger : List Cond := .code yX3_isFinger cX3_isFinger 1 (some .boolean) :: wT
def wsX3_fingerStart : List Cond := .code yX3_fingerStart cX3_fingerStart 2 (some .int) :: wT
def wsX3_put : List Cond := .code yX3_put cX3_put 5 (some .boolean) :: wT
def wsX3_takeKey : List Cond := .code yX3_takeKey cX3_takeKey 2 (some .boolean) :: wT
def wsX3_slotOf : List Cond := .code yX3_slotOf cX3_slotOf 3 (some .int) :: wT
def wsX3_get : List Cond := .code yX3_get cX3_get 3 (some .boolean) :: wT
def wsX3_deliver : List Cond := .code yX3_deliver cX3_deliver 2 (some .int) :: wT
def wsX3_arrive : List Cond := .code yX3_arrive cX3_arrive 4 (some .int) :: wT
def wsX2_takeOut : List Cond := .code yX2_takeOut cX2_takeOut 4 (some (.object "FingerOverlay$Message")) :: wT
def wsX2_at : List Cond := .code yX2_at cX2_at 2 (some (.object "FingerOverlay$Message")) :: wT
def wsX3_findArrives : List Cond := .code yX3_findArrives cX3_findArrives 4 none :: wT
def wsX3_isPastUpTo : List Cond := .code yX3_isPastUpTo cX3_isPastUpTo 3 (some .boolean) :: wT
def wsX3_stepsUp : List Cond := .code yX3_stepsUp cX3_stepsUp 2 (some .int) :: wT
def wsX3_passOn : List Cond := .code yX3_passOn cX3_passOn 4 none :: wT
def wsX3_nextTowards : List Cond := .code yX3_nextTowards cX3_nextTowards 4 (some .int) :: wT
def wsX3_isBetween : List Cond := .code yX3_isBetween cX3_isBetween 3 (some .boolean) :: wT
def wsX3_foundArrives : List Cond := .code yX3_foundArrives cX3_foundArrives 3 none :: wT
def wsX3_storeArrives : List Cond := .code yX3_storeArrives cX3_storeArrives 4 none :: wT
def wsX3_fetchArrives : List Cond := .code yX3_fetchArrives cX3_fetchArrives 4 none :: wT
def wsX3_valueAt : List Cond := .code yX3_valueAt cX3_valueAt 4 (some .long) :: wT
def wsX3_askArrives : List Cond := .code yX3_askArrives cX3_askArrives 4 none :: wT
def wsX3_tellArrives : List Cond := .code yX3_tellArrives cX3_tellArrives 4 none :: wT
def wsX3_notifyArrives : List Cond := .code yX3_notifyArrives cX3_notifyArrives 3 none :: wT
def wsX3_handOver : List Cond := .code yX3_handOver cX3_handOver 4 none :: wT
def wsX3_pump : List Cond := .code yX3_pump cX3_pump 3 (some .int) :: wT
def wsX3_flying : List Cond := .code yX3_flying cX3_flying 1 (some .int) :: wT
def wsX3_message : List Cond := .code yX3_message cX3_message 3 (some .int) :: wT
def wsX3_successor : List Cond := .code yX3_successor cX3_successor 3 (some .int) :: wT
def wsX3_predecessor : List Cond := .code yX3_predecessor cX3_predecessor 3 (some .int) :: wT
def wsX3_finger : List Cond := .code yX3_finger cX3_finger 4 (some .int) :: wT
def wsX3_entry : List Cond := .code yX3_entry cX3_entry 4 (some .long) :: wT
def wsX3_entries : List Cond := .code yX3_entries cX3_entries 5 (some .int) :: wT
def wsX3_answer : List Cond := .code yX3_answer cX3_answer 3 (some .long) :: wT
def wsX3_hops : List Cond := .code yX3_hops cX3_hops 3 (some .int) :: wT
def wsX3_owner : List Cond := .code yX3_owner cX3_owner 2 (some .int) :: wT
def wsX3_firstUpFrom : List Cond := .code yX3_firstUpFrom cX3_firstUpFrom 5 (some .int) :: wT
def wsX3_wrong : List Cond := .code yX3_wrong cX3_wrong 3 (some .int) :: wT
def wsX3_wrongPointers : List Cond := .code yX3_wrongPointers cX3_wrongPointers 4 (some .int) :: wT
def wsX3_firstDownFrom : List Cond := .code yX3_firstDownFrom cX3_firstDownFrom 5 (some .int) :: wT
def wsX3_misplaced : List Cond := .code yX3_misplaced cX3_misplaced 5 (some .int) :: wT
def wsX4_init : List Cond := .code yX4_init cX4_init 2 none :: wT
def wsX4_create : List Cond := .code yX4_create cX4_create 2 (some .boolean) :: wT
def wsX4_isId : List Cond := .code yX4_isId cX4_isId 1 (some .boolean) :: wT
def wsX4_join : List Cond := .code yX4_join cX4_join 3 (some .boolean) :: wT
def wsX4_isMember : List Cond := .code yX4_isMember cX4_isMember 2 (some .boolean) :: wT
def wsX4_ask : List Cond := .code yX4_ask cX4_ask 7 none :: wT
def wsX4_post : List Cond := .code yX4_post cX4_post 5 none :: wT
def wsX4_stabilise : List Cond := .code yX4_stabilise cX4_stabilise 2 (some .boolean) :: wT
def wsX4_fix : List Cond := .code yX4_fix cX4_fix 3 (some .boolean) :: wT
def wsX4_put : List Cond := .code yX4_put cX4_put 6 (some .boolean) :: wT
def wsX4_get : List Cond := .code yX4_get cX4_get 3 (some .boolean) :: wT
def wsX4_deliver : List Cond := .code yX4_deliver cX4_deliver 3 (some .int) :: wT
def wsX4_arrive : List Cond := .code yX4_arrive cX4_arrive 3 none :: wT
def wsX4_copy : List Cond := .code yX4_copy cX4_copy 3 none :: wT
def wsX4_find : List Cond := .code yX4_find cX4_find 6 none :: wT
def wsX4_past : List Cond := .code yX4_past cX4_past 5 (some .boolean) :: wT
def wsX4_between : List Cond := .code yX4_between cX4_between 3 (some .boolean) :: wT
def wsX4_found : List Cond := .code yX4_found cX4_found 3 none :: wT
def wsX4_keep : List Cond := .code yX4_keep cX4_keep 5 none :: wT
def wsX4_entryAt : List Cond := .code yX4_entryAt cX4_entryAt 5 (some .int) :: wT
def wsX4_fetch : List Cond := .code yX4_fetch cX4_fetch 3 none :: wT
def wsX4_tell : List Cond := .code yX4_tell cX4_tell 3 none :: wT
def wsX4_notified : List Cond := .code yX4_notified cX4_notified 3 none :: wT
def wsX4_handOver : List Cond := .code yX4_handOver cX4_handOver 6 none :: wT
def wsX4_dropEntry : List Cond := .code yX4_dropEntry cX4_dropEntry 3 none :: wT
def wsX4_pump : List Cond := .code yX4_pump cX4_pump 3 (some .int) :: wT
def wsX4_flying : List Cond := .code yX4_flying cX4_flying 1 (some .int) :: wT
def wsX4_message : List Cond := .code yX4_message cX4_message 2 (some .int) :: wT
def wsX4_successor : List Cond := .code yX4_successor cX4_successor 2 (some .int) :: wT
def wsX4_predecessor : List Cond := .code yX4_predecessor cX4_predecessor 2 (some .int) :: wT
def wsX4_finger : List Cond := .code yX4_finger cX4_finger 3 (some .int) :: wT
def wsX4_entry : List Cond := .code yX4_entry cX4_entry 4 (some .long) :: wT
def wsX4_entries : List Cond := .code yX4_entries cX4_entries 4 (some .int) :: wT
def wsX4_answer : List Cond := .code yX4_answer cX4_answer 2 (some .long) :: wT
def wsX4_hops : List Cond := .code yX4_hops cX4_hops 2 (some .int) :: wT
def wsX4_owner : List Cond := .code yX4_owner cX4_owner 2 (some .int) :: wT
def wsX4_first : List Cond := .code yX4_first cX4_first 5 (some .int) :: wT
def wsX4_wrong : List Cond := .code yX4_wrong cX4_wrong 4 (some .int) :: wT
def wsX4_misplaced : List Cond := .code yX4_misplaced cX4_misplaced 3 (some .int) :: wT
abbrev vwCl : List vw_C := [(RX0, TX0, 9), (RX1, TX1, 7), (RX2, TX2, 2), (RX3, TX3, 5), (RX4, TX4, 22)]
theorem wsel_X3_addNode : Cond.selects RX3 yX3_addNode yX3_addNode ∈ wT := wt_in 0 (by decide +kernel) (by decide +kernel)
theorem wsel_X3_nodeWith : Cond.selects RX3 yX3_nodeWith yX3_nodeWith ∈ wT := wt_in 1 (by decide +kernel) (by decide +kernel)
theorem wsel_X3_memberWith : Cond.selects RX3 yX3_memberWith yX3_memberWith ∈ wT := wt_in 2 (by decide +kernel) (by decide +kernel)
theorem wsel_X3_sendFind : Cond.selects RX3 yX3_sendFind yX3_sendFind ∈ wT := wt_in 3 (by decide +kernel) (by decide +kernel)
theorem wsel_X3_takeKey : Cond.selects RX3 yX3_takeKey yX3_takeKey ∈ wT := wt_in 4 (by decide +kernel) (by decide +kernel)
theorem wsel_X3_slotOf : Cond.selects RX3 yX3_slotOf yX3_slotOf ∈ wT := wt_in 5 (by decide +kernel) (by decide +kernel)
theorem wsel_X3_arrive : Cond.selects RX3 yX3_arrive yX3_arrive ∈ wT := wt_in 6 (by decide +kernel) (by decide +kernel)
theorem wsel_X3_findArrives : Cond.selects RX3 yX3_findArrives yX3_findArrives ∈ wT := wt_in 7 (by decide +kernel) (by decide +kernel)
theorem wsel_X3_passOn : Cond.selects RX3 yX3_passOn yX3_passOn ∈ wT := wt_in 8 (by decide +kernel) (by decide +kernel)
theorem wsel_X3_foundArrives : Cond.selects RX3 yX3_foundArrives yX3_foundArrives ∈ wT := wt_in 9 (by decide +kernel) (by decide +kernel)
theorem wsel_X3_storeArrives : Cond.selects RX3 yX3_storeArrives yX3_storeArrives ∈ wT := wt_in 10 (by decide +kernel) (by decide +kernel)
theorem wsel_X3_fetchArrives : Cond.selects RX3 yX3_fetchArrives yX3_fetchArrives ∈ wT := wt_in 11 (by decide +kernel) (by decide +kernel)
theorem wsel_X3_valueAt : Cond.selects RX3 yX3_valueAt yX3_valueAt ∈ wT := wt_in 12 (by decide +kernel) (by decide +kernel)
theorem wsel_X3_askArrives : Cond.selects RX3 yX3_askArrives yX3_askArrives ∈ wT := wt_in 13 (by decide +kernel) (by decide +kernel)
theorem wsel_X3_tellArrives : Cond.selects RX3 yX3_tellArrives yX3_tellArrives ∈ wT := wt_in 14 (by decide +kernel) (by decide +kernel)
theorem wsel_X3_notifyArrives : Cond.selects RX3 yX3_notifyArrives yX3_notifyArrives ∈ wT := wt_in 15 (by decide +kernel) (by decide +kernel)
theorem wsel_X3_handOver : Cond.selects RX3 yX3_handOver yX3_handOver ∈ wT := wt_in 16 (by decide +kernel) (by decide +kernel)
theorem wsel_X3_firstUpFrom : Cond.selects RX3 yX3_firstUpFrom yX3_firstUpFrom ∈ wT := wt_in 17 (by decide +kernel) (by decide +kernel)
theorem wsel_X3_wrongPointers : Cond.selects RX3 yX3_wrongPointers yX3_wrongPointers ∈ wT := wt_in 18 (by decide +kernel) (by decide +kernel)
theorem wsel_X3_firstDownFrom : Cond.selects RX3 yX3_firstDownFrom yX3_firstDownFrom ∈ wT := wt_in 19 (by decide +kernel) (by decide +kernel)
theorem wsel_X4_isMember : Cond.selects RX4 yX4_isMember yX4_isMember ∈ wT := wt_in 20 (by decide +kernel) (by decide +kernel)
theorem wsel_X4_ask : Cond.selects RX4 yX4_ask yX4_ask ∈ wT := wt_in 21 (by decide +kernel) (by decide +kernel)
theorem wsel_X4_post : Cond.selects RX4 yX4_post yX4_post ∈ wT := wt_in 22 (by decide +kernel) (by decide +kernel)
theorem wsel_X4_arrive : Cond.selects RX4 yX4_arrive yX4_arrive ∈ wT := wt_in 23 (by decide +kernel) (by decide +kernel)
theorem wsel_X4_copy : Cond.selects RX4 yX4_copy yX4_copy ∈ wT := wt_in 24 (by decide +kernel) (by decide +kernel)
theorem wsel_X4_find : Cond.selects RX4 yX4_find yX4_find ∈ wT := wt_in 25 (by decide +kernel) (by decide +kernel)
theorem wsel_X4_found : Cond.selects RX4 yX4_found yX4_found ∈ wT := wt_in 26 (by decide +kernel) (by decide +kernel)
theorem wsel_X4_keep : Cond.selects RX4 yX4_keep yX4_keep ∈ wT := wt_in 27 (by decide +kernel) (by decide +kernel)
theorem wsel_X4_entryAt : Cond.selects RX4 yX4_entryAt yX4_entryAt ∈ wT := wt_in 28 (by decide +kernel) (by decide +kernel)
theorem wsel_X4_fetch : Cond.selects RX4 yX4_fetch yX4_fetch ∈ wT := wt_in 29 (by decide +kernel) (by decide +kernel)
theorem wsel_X4_tell : Cond.selects RX4 yX4_tell yX4_tell ∈ wT := wt_in 30 (by decide +kernel) (by decide +kernel)
theorem wsel_X4_notified : Cond.selects RX4 yX4_notified yX4_notified ∈ wT := wt_in 31 (by decide +kernel) (by decide +kernel)
theorem wsel_X4_handOver : Cond.selects RX4 yX4_handOver yX4_handOver ∈ wT := wt_in 32 (by decide +kernel) (by decide +kernel)
theorem wsel_X4_dropEntry : Cond.selects RX4 yX4_dropEntry yX4_dropEntry ∈ wT := wt_in 33 (by decide +kernel) (by decide +kernel)
theorem wsel_X4_first : Cond.selects RX4 yX4_first yX4_first ∈ wT := wt_in 34 (by decide +kernel) (by decide +kernel)
theorem wini_L : Cond.initialized RL ∈ wT := wt_in 35 (by decide +kernel) (by decide +kernel)
theorem wini_X3 : Cond.initialized RX3 ∈ wT := wt_in 36 (by decide +kernel) (by decide +kernel)
theorem wini_X2 : Cond.initialized RX2 ∈ wT := wt_in 37 (by decide +kernel) (by decide +kernel)
theorem wini_X0 : Cond.initialized RX0 ∈ wT := wt_in 38 (by decide +kernel) (by decide +kernel)
theorem wini_X4 : Cond.initialized RX4 ∈ wT := wt_in 39 (by decide +kernel) (by decide +kernel)
theorem wini_X1 : Cond.initialized RX1 ∈ wT := wt_in 40 (by decide +kernel) (by decide +kernel)
theorem wini_J7 : Cond.initialized RJ7 ∈ wT := wt_in 41 (by decide +kernel) (by decide +kernel)
theorem wK_L_7 : Cond.classLink RL 7 RX3 ∈ wT := wt_in 42 (by decide +kernel) (by decide +kernel)
theorem wnew_X3 : Cond.instantiable RX3 5 ∈ wT := wt_in 43 (by decide +kernel) (by decide +kernel)
theorem wM_L_9 : Cond.methodLink RL 9 yX3_init ∈ wT := wt_in 44 (by decide +kernel) (by decide +kernel)
theorem wi_X3_init : Cond.instanceMethod yX3_init ∈ wT := wt_in 45 (by decide +kernel) (by decide +kernel)
theorem wcode_X3_init : Cond.code yX3_init cX3_init 1 none ∈ wT := wt_in 46 (by decide +kernel) (by decide +kernel)
theorem wM_X3_1 : Cond.methodLink RX3 1 yOB_init ∈ wT := wt_in 47 (by decide +kernel) (by decide +kernel)
theorem wi_OB_init : Cond.instanceMethod yOB_init ∈ wT := wt_in 48 (by decide +kernel) (by decide +kernel)
theorem wcode_OB_init : Cond.code yOB_init cOB_init 1 none ∈ wT := wt_in 49 (by decide +kernel) (by decide +kernel)
theorem wK_X3_9 : Cond.classLink RX3 9 RX1 ∈ wT := wt_in 50 (by decide +kernel) (by decide +kernel)
theorem wK_X3_26 : Cond.classLink RX3 26 RX2 ∈ wT := wt_in 52 (by decide +kernel) (by decide +kernel)
theorem wnew_X2 : Cond.instantiable RX2 2 ∈ wT := wt_in 53 (by decide +kernel) (by decide +kernel)
theorem wM_X3_28 : Cond.methodLink RX3 28 yX2_init ∈ wT := wt_in 54 (by decide +kernel) (by decide +kernel)
theorem wi_X2_init : Cond.instanceMethod yX2_init ∈ wT := wt_in 55 (by decide +kernel) (by decide +kernel)
theorem wcode_X2_init : Cond.code yX2_init cX2_init 2 none ∈ wT := wt_in 56 (by decide +kernel) (by decide +kernel)
theorem wM_X2_3 : Cond.methodLink RX2 3 yOB_init ∈ wT := wt_in 57 (by decide +kernel) (by decide +kernel)
theorem wK_X2_9 : Cond.classLink RX2 9 RX0 ∈ wT := wt_in 58 (by decide +kernel) (by decide +kernel)
theorem wnew_X0 : Cond.instantiable RX0 9 ∈ wT := wt_in 60 (by decide +kernel) (by decide +kernel)
theorem wi_X0_init : Cond.instanceMethod yX0_init ∈ wT := wt_in 62 (by decide +kernel) (by decide +kernel)
theorem wcode_X0_init : Cond.code yX0_init cX0_init 1 none ∈ wT := wt_in 63 (by decide +kernel) (by decide +kernel)
theorem wM_X0_1 : Cond.methodLink RX0 1 yOB_init ∈ wT := wt_in 64 (by decide +kernel) (by decide +kernel)
theorem wF_X2_26 : Cond.fieldLink RX2 26 "FingerOverlay$Message" "kind" "I" ∈ wT := wt_in 65 (by decide +kernel) (by decide +kernel)
theorem wF_X3_95 : Cond.fieldLink RX3 95 "FingerOverlay$Message" "kind" "I" ∈ wT := wt_in 66 (by decide +kernel) (by decide +kernel)
theorem wF_X2_29 : Cond.fieldLink RX2 29 "FingerOverlay$Message" "to" "I" ∈ wT := wt_in 67 (by decide +kernel) (by decide +kernel)
theorem wF_X3_98 : Cond.fieldLink RX3 98 "FingerOverlay$Message" "to" "I" ∈ wT := wt_in 68 (by decide +kernel) (by decide +kernel)
theorem wF_X2_32 : Cond.fieldLink RX2 32 "FingerOverlay$Message" "asker" "I" ∈ wT := wt_in 69 (by decide +kernel) (by decide +kernel)
theorem wF_X3_150 : Cond.fieldLink RX3 150 "FingerOverlay$Message" "asker" "I" ∈ wT := wt_in 70 (by decide +kernel) (by decide +kernel)
theorem wF_X2_35 : Cond.fieldLink RX2 35 "FingerOverlay$Message" "purpose" "I" ∈ wT := wt_in 71 (by decide +kernel) (by decide +kernel)
theorem wF_X3_153 : Cond.fieldLink RX3 153 "FingerOverlay$Message" "purpose" "I" ∈ wT := wt_in 72 (by decide +kernel) (by decide +kernel)
theorem wF_X2_38 : Cond.fieldLink RX2 38 "FingerOverlay$Message" "key" "I" ∈ wT := wt_in 73 (by decide +kernel) (by decide +kernel)
theorem wF_X3_156 : Cond.fieldLink RX3 156 "FingerOverlay$Message" "key" "I" ∈ wT := wt_in 74 (by decide +kernel) (by decide +kernel)
theorem wF_X3_74 : Cond.fieldLink RX3 74 "FingerOverlay$Message" "finger" "I" ∈ wT := wt_in 75 (by decide +kernel) (by decide +kernel)
theorem wF_X2_41 : Cond.fieldLink RX2 41 "FingerOverlay$Message" "finger" "I" ∈ wT := wt_in 76 (by decide +kernel) (by decide +kernel)
theorem wF_X3_62 : Cond.fieldLink RX3 62 "FingerOverlay$Message" "member" "I" ∈ wT := wt_in 77 (by decide +kernel) (by decide +kernel)
theorem wF_X2_44 : Cond.fieldLink RX2 44 "FingerOverlay$Message" "member" "I" ∈ wT := wt_in 78 (by decide +kernel) (by decide +kernel)
theorem wF_X2_47 : Cond.fieldLink RX2 47 "FingerOverlay$Message" "hops" "I" ∈ wT := wt_in 79 (by decide +kernel) (by decide +kernel)
theorem wF_X3_175 : Cond.fieldLink RX3 175 "FingerOverlay$Message" "hops" "I" ∈ wT := wt_in 80 (by decide +kernel) (by decide +kernel)
theorem wF_X2_50 : Cond.fieldLink RX2 50 "FingerOverlay$Message" "value" "J" ∈ wT := wt_in 81 (by decide +kernel) (by decide +kernel)
theorem wF_X3_80 : Cond.fieldLink RX3 80 "FingerOverlay$Message" "value" "J" ∈ wT := wt_in 82 (by decide +kernel) (by decide +kernel)
theorem warr_int : Cond.arrayClass .int ∈ wT := wt_in 102 (by decide +kernel) (by decide +kernel)
theorem wF_X2_11 : Cond.fieldLink RX2 11 "FingerOverlay$Row" "messages" "[LFingerOverlay$Message;" ∈ wT := wt_in 103 (by decide +kernel) (by decide +kernel)
theorem wF_X2_17 : Cond.fieldLink RX2 17 "FingerOverlay$Row" "size" "I" ∈ wT := wt_in 104 (by decide +kernel) (by decide +kernel)
theorem wF_X3_88 : Cond.fieldLink RX3 88 "FingerOverlay$Row" "size" "I" ∈ wT := wt_in 105 (by decide +kernel) (by decide +kernel)
theorem wF_X3_11 : Cond.fieldLink RX3 11 "FingerOverlay" "nodes" "[LFingerOverlay$Node;" ∈ wT := wt_in 111 (by decide +kernel) (by decide +kernel)
theorem wF_X3_15 : Cond.fieldLink RX3 15 "FingerOverlay" "nodeCount" "I" ∈ wT := wt_in 112 (by decide +kernel) (by decide +kernel)
theorem wF_X3_19 : Cond.fieldLink RX3 19 "FingerOverlay" "keys" "[I" ∈ wT := wt_in 113 (by decide +kernel) (by decide +kernel)
theorem wF_X3_23 : Cond.fieldLink RX3 23 "FingerOverlay" "keyCount" "I" ∈ wT := wt_in 114 (by decide +kernel) (by decide +kernel)
theorem wF_X3_29 : Cond.fieldLink RX3 29 "FingerOverlay" "row" "LFingerOverlay$Row;" ∈ wT := wt_in 115 (by decide +kernel) (by decide +kernel)
theorem wM_L_13 : Cond.methodLink RL 13 yX3_create ∈ wT := wt_in 127 (by decide +kernel) (by decide +kernel)
theorem wi_X3_create : Cond.instanceMethod yX3_create ∈ wT := wt_in 128 (by decide +kernel) (by decide +kernel)
theorem wsel_X3_create : Cond.selects RX3 yX3_create yX3_create ∈ wT := wt_in 129 (by decide +kernel) (by decide +kernel)
theorem wcode_X3_create : Cond.code yX3_create cX3_create 3 (some .boolean) ∈ wT := wt_in 130 (by decide +kernel) (by decide +kernel)
theorem wM_X3_33 : Cond.methodLink RX3 33 yX3_isId ∈ wT := wt_in 131 (by decide +kernel) (by decide +kernel)
theorem wst_X3_isId : Cond.static yX3_isId ∈ wT := wt_in 132 (by decide +kernel) (by decide +kernel)
theorem wcode_X3_isId : Cond.code yX3_isId cX3_isId 1 (some .boolean) ∈ wT := wt_in 133 (by decide +kernel) (by decide +kernel)
theorem wM_X3_37 : Cond.methodLink RX3 37 yX3_addNode ∈ wT := wt_in 134 (by decide +kernel) (by decide +kernel)
theorem wi_X3_addNode : Cond.instanceMethod yX3_addNode ∈ wT := wt_in 136 (by decide +kernel) (by decide +kernel)
theorem wcode_X3_addNode : Cond.code yX3_addNode cX3_addNode 3 (some (.object "FingerOverlay$Node")) ∈ wT := wt_in 137 (by decide +kernel) (by decide +kernel)
theorem wnew_X1 : Cond.instantiable RX1 7 ∈ wT := wt_in 138 (by decide +kernel) (by decide +kernel)
theorem wM_X3_141 : Cond.methodLink RX3 141 yX1_init ∈ wT := wt_in 139 (by decide +kernel) (by decide +kernel)
theorem wi_X1_init : Cond.instanceMethod yX1_init ∈ wT := wt_in 140 (by decide +kernel) (by decide +kernel)
theorem wcode_X1_init : Cond.code yX1_init cX1_init 2 none ∈ wT := wt_in 141 (by decide +kernel) (by decide +kernel)
theorem wM_X1_3 : Cond.methodLink RX1 3 yOB_init ∈ wT := wt_in 142 (by decide +kernel) (by decide +kernel)
theorem wC_X1_26 : Cond.constantLong RX1 26 8589934592 ∈ wT := wt_in 143 (by decide +kernel) (by decide +kernel)
theorem wM_X1_38 : Cond.methodLink RX1 38 yJ7_filli ∈ wT := wt_in 144 (by decide +kernel) (by decide +kernel)
theorem wst_J7_filli : Cond.static yJ7_filli ∈ wT := wt_in 145 (by decide +kernel) (by decide +kernel)
theorem wcode_J7_filli : Cond.code yJ7_filli cJ7_filli 4 none ∈ wT := wt_in 146 (by decide +kernel) (by decide +kernel)
theorem wC_X1_44 : Cond.constantLong RX1 44 4294967296 ∈ wT := wt_in 147 (by decide +kernel) (by decide +kernel)
theorem wM_X1_46 : Cond.methodLink RX1 46 yJ7_filll ∈ wT := wt_in 148 (by decide +kernel) (by decide +kernel)
theorem wst_J7_filll : Cond.static yJ7_filll ∈ wT := wt_in 149 (by decide +kernel) (by decide +kernel)
theorem wcode_J7_filll : Cond.code yJ7_filll cJ7_filll 5 none ∈ wT := wt_in 150 (by decide +kernel) (by decide +kernel)
theorem wF_X1_35 : Cond.fieldLink RX1 35 "FingerOverlay$Node" "id" "I" ∈ wT := wt_in 151 (by decide +kernel) (by decide +kernel)
theorem wF_X3_135 : Cond.fieldLink RX3 135 "FingerOverlay$Node" "id" "I" ∈ wT := wt_in 152 (by decide +kernel) (by decide +kernel)
theorem wF_X1_9 : Cond.fieldLink RX1 9 "FingerOverlay$Node" "successor" "I" ∈ wT := wt_in 153 (by decide +kernel) (by decide +kernel)
theorem wF_X3_41 : Cond.fieldLink RX3 41 "FingerOverlay$Node" "successor" "I" ∈ wT := wt_in 154 (by decide +kernel) (by decide +kernel)
theorem wF_X1_15 : Cond.fieldLink RX1 15 "FingerOverlay$Node" "predecessor" "I" ∈ wT := wt_in 155 (by decide +kernel) (by decide +kernel)
theorem wF_X3_101 : Cond.fieldLink RX3 101 "FingerOverlay$Node" "predecessor" "I" ∈ wT := wt_in 156 (by decide +kernel) (by decide +kernel)
theorem wF_X1_18 : Cond.fieldLink RX1 18 "FingerOverlay$Node" "fingers" "[I" ∈ wT := wt_in 157 (by decide +kernel) (by decide +kernel)
theorem wF_X3_104 : Cond.fieldLink RX3 104 "FingerOverlay$Node" "fingers" "[I" ∈ wT := wt_in 158 (by decide +kernel) (by decide +kernel)
theorem wF_X1_22 : Cond.fieldLink RX1 22 "FingerOverlay$Node" "values" "[J" ∈ wT := wt_in 159 (by decide +kernel) (by decide +kernel)
theorem wF_X3_113 : Cond.fieldLink RX3 113 "FingerOverlay$Node" "values" "[J" ∈ wT := wt_in 160 (by decide +kernel) (by decide +kernel)
theorem wF_X1_28 : Cond.fieldLink RX1 28 "FingerOverlay$Node" "answer" "J" ∈ wT := wt_in 161 (by decide +kernel) (by decide +kernel)
theorem wF_X3_119 : Cond.fieldLink RX3 119 "FingerOverlay$Node" "answer" "J" ∈ wT := wt_in 162 (by decide +kernel) (by decide +kernel)
theorem wF_X1_32 : Cond.fieldLink RX1 32 "FingerOverlay$Node" "hops" "I" ∈ wT := wt_in 163 (by decide +kernel) (by decide +kernel)
theorem wF_X3_122 : Cond.fieldLink RX3 122 "FingerOverlay$Node" "hops" "I" ∈ wT := wt_in 164 (by decide +kernel) (by decide +kernel)
theorem warr_long : Cond.arrayClass .long ∈ wT := wt_in 180 (by decide +kernel) (by decide +kernel)
theorem wM_L_18 : Cond.methodLink RL 18 yX3_join ∈ wT := wt_in 181 (by decide +kernel) (by decide +kernel)
theorem wi_X3_join : Cond.instanceMethod yX3_join ∈ wT := wt_in 182 (by decide +kernel) (by decide +kernel)
theorem wsel_X3_join : Cond.selects RX3 yX3_join yX3_join ∈ wT := wt_in 183 (by decide +kernel) (by decide +kernel)
theorem wcode_X3_join : Cond.code yX3_join cX3_join 3 (some .boolean) ∈ wT := wt_in 184 (by decide +kernel) (by decide +kernel)
theorem wM_X3_44 : Cond.methodLink RX3 44 yX3_nodeWith ∈ wT := wt_in 185 (by decide +kernel) (by decide +kernel)
theorem wi_X3_nodeWith : Cond.instanceMethod yX3_nodeWith ∈ wT := wt_in 187 (by decide +kernel) (by decide +kernel)
theorem wcode_X3_nodeWith : Cond.code yX3_nodeWith cX3_nodeWith 3 (some (.object "FingerOverlay$Node")) ∈ wT := wt_in 188 (by decide +kernel) (by decide +kernel)
theorem wM_X3_47 : Cond.methodLink RX3 47 yX3_memberWith ∈ wT := wt_in 189 (by decide +kernel) (by decide +kernel)
theorem wi_X3_memberWith : Cond.instanceMethod yX3_memberWith ∈ wT := wt_in 191 (by decide +kernel) (by decide +kernel)
theorem wcode_X3_memberWith : Cond.code yX3_memberWith cX3_memberWith 3 (some (.object "FingerOverlay$Node")) ∈ wT := wt_in 192 (by decide +kernel) (by decide +kernel)
theorem wM_X3_128 : Cond.methodLink RX3 128 yX1_isMember ∈ wT := wt_in 193 (by decide +kernel) (by decide +kernel)
theorem wi_X1_isMember : Cond.instanceMethod yX1_isMember ∈ wT := wt_in 194 (by decide +kernel) (by decide +kernel)
theorem wsel_X1_isMember : Cond.selects RX1 yX1_isMember yX1_isMember ∈ wT := wt_in 195 (by decide +kernel) (by decide +kernel)
theorem wcode_X1_isMember : Cond.code yX1_isMember cX1_isMember 1 (some .boolean) ∈ wT := wt_in 196 (by decide +kernel) (by decide +kernel)
theorem wM_X3_50 : Cond.methodLink RX3 50 yX2_isFull ∈ wT := wt_in 197 (by decide +kernel) (by decide +kernel)
theorem wi_X2_isFull : Cond.instanceMethod yX2_isFull ∈ wT := wt_in 198 (by decide +kernel) (by decide +kernel)
theorem wsel_X2_isFull : Cond.selects RX2 yX2_isFull yX2_isFull ∈ wT := wt_in 199 (by decide +kernel) (by decide +kernel)
theorem wcode_X2_isFull : Cond.code yX2_isFull cX2_isFull 1 (some .boolean) ∈ wT := wt_in 200 (by decide +kernel) (by decide +kernel)
theorem wM_X3_54 : Cond.methodLink RX3 54 yX3_sendFind ∈ wT := wt_in 201 (by decide +kernel) (by decide +kernel)
theorem wi_X3_sendFind : Cond.instanceMethod yX3_sendFind ∈ wT := wt_in 203 (by decide +kernel) (by decide +kernel)
theorem wcode_X3_sendFind : Cond.code yX3_sendFind cX3_sendFind 6 (some (.object "FingerOverlay$Message")) ∈ wT := wt_in 204 (by decide +kernel) (by decide +kernel)
theorem wM_X3_58 : Cond.methodLink RX3 58 yX2_send ∈ wT := wt_in 205 (by decide +kernel) (by decide +kernel)
theorem wi_X2_send : Cond.instanceMethod yX2_send ∈ wT := wt_in 206 (by decide +kernel) (by decide +kernel)
theorem wsel_X2_send : Cond.selects RX2 yX2_send yX2_send ∈ wT := wt_in 207 (by decide +kernel) (by decide +kernel)
theorem wcode_X2_send : Cond.code yX2_send cX2_send 4 (some (.object "FingerOverlay$Message")) ∈ wT := wt_in 208 (by decide +kernel) (by decide +kernel)
theorem wM_L_23 : Cond.methodLink RL 23 yX3_stabilise ∈ wT := wt_in 209 (by decide +kernel) (by decide +kernel)
theorem wi_X3_stabilise : Cond.instanceMethod yX3_stabilise ∈ wT := wt_in 210 (by decide +kernel) (by decide +kernel)
theorem wsel_X3_stabilise : Cond.selects RX3 yX3_stabilise yX3_stabilise ∈ wT := wt_in 211 (by decide +kernel) (by decide +kernel)
theorem wcode_X3_stabilise : Cond.code yX3_stabilise cX3_stabilise 4 (some .boolean) ∈ wT := wt_in 212 (by decide +kernel) (by decide +kernel)
theorem wM_L_27 : Cond.methodLink RL 27 yX3_fix ∈ wT := wt_in 213 (by decide +kernel) (by decide +kernel)
theorem wi_X3_fix : Cond.instanceMethod yX3_fix ∈ wT := wt_in 214 (by decide +kernel) (by decide +kernel)
theorem wsel_X3_fix : Cond.selects RX3 yX3_fix yX3_fix ∈ wT := wt_in 215 (by decide +kernel) (by decide +kernel)
theorem wcode_X3_fix : Cond.code yX3_fix cX3_fix 4 (some .boolean) ∈ wT := wt_in 216 (by decide +kernel) (by decide +kernel)
theorem wM_X3_67 : Cond.methodLink RX3 67 yX3_isFinger ∈ wT := wt_in 217 (by decide +kernel) (by decide +kernel)
theorem wst_X3_isFinger : Cond.static yX3_isFinger ∈ wT := wt_in 218 (by decide +kernel) (by decide +kernel)
theorem wcode_X3_isFinger : Cond.code yX3_isFinger cX3_isFinger 1 (some .boolean) ∈ wT := wt_in 219 (by decide +kernel) (by decide +kernel)
theorem wM_X3_70 : Cond.methodLink RX3 70 yX3_fingerStart ∈ wT := wt_in 220 (by decide +kernel) (by decide +kernel)
theorem wst_X3_fingerStart : Cond.static yX3_fingerStart ∈ wT := wt_in 221 (by decide +kernel) (by decide +kernel)
theorem wcode_X3_fingerStart : Cond.code yX3_fingerStart cX3_fingerStart 2 (some .int) ∈ wT := wt_in 222 (by decide +kernel) (by decide +kernel)
theorem wM_L_31 : Cond.methodLink RL 31 yX3_put ∈ wT := wt_in 223 (by decide +kernel) (by decide +kernel)
theorem wi_X3_put : Cond.instanceMethod yX3_put ∈ wT := wt_in 224 (by decide +kernel) (by decide +kernel)
theorem wsel_X3_put : Cond.selects RX3 yX3_put yX3_put ∈ wT := wt_in 225 (by decide +kernel) (by decide +kernel)
theorem wcode_X3_put : Cond.code yX3_put cX3_put 5 (some .boolean) ∈ wT := wt_in 226 (by decide +kernel) (by decide +kernel)
theorem wM_X3_77 : Cond.methodLink RX3 77 yX3_takeKey ∈ wT := wt_in 227 (by decide +kernel) (by decide +kernel)
theorem wi_X3_takeKey : Cond.instanceMethod yX3_takeKey ∈ wT := wt_in 229 (by decide +kernel) (by decide +kernel)
theorem wcode_X3_takeKey : Cond.code yX3_takeKey cX3_takeKey 2 (some .boolean) ∈ wT := wt_in 230 (by decide +kernel) (by decide +kernel)
theorem wM_X3_147 : Cond.methodLink RX3 147 yX3_slotOf ∈ wT := wt_in 231 (by decide +kernel) (by decide +kernel)
theorem wi_X3_slotOf : Cond.instanceMethod yX3_slotOf ∈ wT := wt_in 233 (by decide +kernel) (by decide +kernel)
theorem wcode_X3_slotOf : Cond.code yX3_slotOf cX3_slotOf 3 (some .int) ∈ wT := wt_in 234 (by decide +kernel) (by decide +kernel)
theorem wM_L_36 : Cond.methodLink RL 36 yX3_get ∈ wT := wt_in 235 (by decide +kernel) (by decide +kernel)
theorem wi_X3_get : Cond.instanceMethod yX3_get ∈ wT := wt_in 236 (by decide +kernel) (by decide +kernel)
theorem wsel_X3_get : Cond.selects RX3 yX3_get yX3_get ∈ wT := wt_in 237 (by decide +kernel) (by decide +kernel)
theorem wcode_X3_get : Cond.code yX3_get cX3_get 3 (some .boolean) ∈ wT := wt_in 238 (by decide +kernel) (by decide +kernel)
theorem wM_L_40 : Cond.methodLink RL 40 yX3_deliver ∈ wT := wt_in 239 (by decide +kernel) (by decide +kernel)
theorem wi_X3_deliver : Cond.instanceMethod yX3_deliver ∈ wT := wt_in 240 (by decide +kernel) (by decide +kernel)
theorem wsel_X3_deliver : Cond.selects RX3 yX3_deliver yX3_deliver ∈ wT := wt_in 241 (by decide +kernel) (by decide +kernel)
theorem wcode_X3_deliver : Cond.code yX3_deliver cX3_deliver 2 (some .int) ∈ wT := wt_in 242 (by decide +kernel) (by decide +kernel)
theorem wM_X3_84 : Cond.methodLink RX3 84 yX3_arrive ∈ wT := wt_in 243 (by decide +kernel) (by decide +kernel)
theorem wi_X3_arrive : Cond.instanceMethod yX3_arrive ∈ wT := wt_in 245 (by decide +kernel) (by decide +kernel)
theorem wcode_X3_arrive : Cond.code yX3_arrive cX3_arrive 4 (some .int) ∈ wT := wt_in 246 (by decide +kernel) (by decide +kernel)
theorem wM_X3_159 : Cond.methodLink RX3 159 yX2_takeOut ∈ wT := wt_in 247 (by decide +kernel) (by decide +kernel)
theorem wi_X2_takeOut : Cond.instanceMethod yX2_takeOut ∈ wT := wt_in 248 (by decide +kernel) (by decide +kernel)
theorem wsel_X2_takeOut : Cond.selects RX2 yX2_takeOut yX2_takeOut ∈ wT := wt_in 249 (by decide +kernel) (by decide +kernel)
theorem wcode_X2_takeOut : Cond.code yX2_takeOut cX2_takeOut 4 (some (.object "FingerOverlay$Message")) ∈ wT := wt_in 250 (by decide +kernel) (by decide +kernel)
theorem wM_X2_22 : Cond.methodLink RX2 22 yX2_at ∈ wT := wt_in 251 (by decide +kernel) (by decide +kernel)
theorem wi_X2_at : Cond.instanceMethod yX2_at ∈ wT := wt_in 252 (by decide +kernel) (by decide +kernel)
theorem wsel_X2_at : Cond.selects RX2 yX2_at yX2_at ∈ wT := wt_in 253 (by decide +kernel) (by decide +kernel)
theorem wcode_X2_at : Cond.code yX2_at cX2_at 2 (some (.object "FingerOverlay$Message")) ∈ wT := wt_in 254 (by decide +kernel) (by decide +kernel)
theorem wM_X3_162 : Cond.methodLink RX3 162 yX3_findArrives ∈ wT := wt_in 255 (by decide +kernel) (by decide +kernel)
theorem wi_X3_findArrives : Cond.instanceMethod yX3_findArrives ∈ wT := wt_in 257 (by decide +kernel) (by decide +kernel)
theorem wcode_X3_findArrives : Cond.code yX3_findArrives cX3_findArrives 4 none ∈ wT := wt_in 258 (by decide +kernel) (by decide +kernel)
theorem wM_X3_185 : Cond.methodLink RX3 185 yX3_isPastUpTo ∈ wT := wt_in 259 (by decide +kernel) (by decide +kernel)
theorem wst_X3_isPastUpTo : Cond.static yX3_isPastUpTo ∈ wT := wt_in 260 (by decide +kernel) (by decide +kernel)
theorem wcode_X3_isPastUpTo : Cond.code yX3_isPastUpTo cX3_isPastUpTo 3 (some .boolean) ∈ wT := wt_in 261 (by decide +kernel) (by decide +kernel)
theorem wM_X3_138 : Cond.methodLink RX3 138 yX3_stepsUp ∈ wT := wt_in 262 (by decide +kernel) (by decide +kernel)
theorem wst_X3_stepsUp : Cond.static yX3_stepsUp ∈ wT := wt_in 263 (by decide +kernel) (by decide +kernel)
theorem wcode_X3_stepsUp : Cond.code yX3_stepsUp cX3_stepsUp 2 (some .int) ∈ wT := wt_in 264 (by decide +kernel) (by decide +kernel)
theorem wM_X3_189 : Cond.methodLink RX3 189 yX3_passOn ∈ wT := wt_in 265 (by decide +kernel) (by decide +kernel)
theorem wi_X3_passOn : Cond.instanceMethod yX3_passOn ∈ wT := wt_in 267 (by decide +kernel) (by decide +kernel)
theorem wcode_X3_passOn : Cond.code yX3_passOn cX3_passOn 4 none ∈ wT := wt_in 268 (by decide +kernel) (by decide +kernel)
theorem wM_X3_192 : Cond.methodLink RX3 192 yX3_nextTowards ∈ wT := wt_in 269 (by decide +kernel) (by decide +kernel)
theorem wst_X3_nextTowards : Cond.static yX3_nextTowards ∈ wT := wt_in 270 (by decide +kernel) (by decide +kernel)
theorem wcode_X3_nextTowards : Cond.code yX3_nextTowards cX3_nextTowards 4 (some .int) ∈ wT := wt_in 271 (by decide +kernel) (by decide +kernel)
theorem wM_X3_196 : Cond.methodLink RX3 196 yX3_isBetween ∈ wT := wt_in 272 (by decide +kernel) (by decide +kernel)
theorem wst_X3_isBetween : Cond.static yX3_isBetween ∈ wT := wt_in 273 (by decide +kernel) (by decide +kernel)
theorem wcode_X3_isBetween : Cond.code yX3_isBetween cX3_isBetween 3 (some .boolean) ∈ wT := wt_in 274 (by decide +kernel) (by decide +kernel)
theorem wM_X3_166 : Cond.methodLink RX3 166 yX3_foundArrives ∈ wT := wt_in 275 (by decide +kernel) (by decide +kernel)
theorem wi_X3_foundArrives : Cond.instanceMethod yX3_foundArrives ∈ wT := wt_in 277 (by decide +kernel) (by decide +kernel)
theorem wcode_X3_foundArrives : Cond.code yX3_foundArrives cX3_foundArrives 3 none ∈ wT := wt_in 278 (by decide +kernel) (by decide +kernel)
theorem wM_X3_169 : Cond.methodLink RX3 169 yX3_storeArrives ∈ wT := wt_in 279 (by decide +kernel) (by decide +kernel)
theorem wi_X3_storeArrives : Cond.instanceMethod yX3_storeArrives ∈ wT := wt_in 281 (by decide +kernel) (by decide +kernel)
theorem wcode_X3_storeArrives : Cond.code yX3_storeArrives cX3_storeArrives 4 none ∈ wT := wt_in 282 (by decide +kernel) (by decide +kernel)
theorem wM_X3_172 : Cond.methodLink RX3 172 yX3_fetchArrives ∈ wT := wt_in 283 (by decide +kernel) (by decide +kernel)
theorem wi_X3_fetchArrives : Cond.instanceMethod yX3_fetchArrives ∈ wT := wt_in 285 (by decide +kernel) (by decide +kernel)
theorem wcode_X3_fetchArrives : Cond.code yX3_fetchArrives cX3_fetchArrives 4 none ∈ wT := wt_in 286 (by decide +kernel) (by decide +kernel)
theorem wM_X3_109 : Cond.methodLink RX3 109 yX3_valueAt ∈ wT := wt_in 287 (by decide +kernel) (by decide +kernel)
theorem wi_X3_valueAt : Cond.instanceMethod yX3_valueAt ∈ wT := wt_in 289 (by decide +kernel) (by decide +kernel)
theorem wcode_X3_valueAt : Cond.code yX3_valueAt cX3_valueAt 4 (some .long) ∈ wT := wt_in 290 (by decide +kernel) (by decide +kernel)
theorem wC_X3_107 : Cond.constantLong RX3 107 4294967296 ∈ wT := wt_in 291 (by decide +kernel) (by decide +kernel)
theorem wM_X3_176 : Cond.methodLink RX3 176 yX3_askArrives ∈ wT := wt_in 292 (by decide +kernel) (by decide +kernel)
theorem wi_X3_askArrives : Cond.instanceMethod yX3_askArrives ∈ wT := wt_in 294 (by decide +kernel) (by decide +kernel)
theorem wcode_X3_askArrives : Cond.code yX3_askArrives cX3_askArrives 4 none ∈ wT := wt_in 295 (by decide +kernel) (by decide +kernel)
theorem wM_X3_179 : Cond.methodLink RX3 179 yX3_tellArrives ∈ wT := wt_in 296 (by decide +kernel) (by decide +kernel)
theorem wi_X3_tellArrives : Cond.instanceMethod yX3_tellArrives ∈ wT := wt_in 298 (by decide +kernel) (by decide +kernel)
theorem wcode_X3_tellArrives : Cond.code yX3_tellArrives cX3_tellArrives 4 none ∈ wT := wt_in 299 (by decide +kernel) (by decide +kernel)
theorem wM_X3_182 : Cond.methodLink RX3 182 yX3_notifyArrives ∈ wT := wt_in 300 (by decide +kernel) (by decide +kernel)
theorem wi_X3_notifyArrives : Cond.instanceMethod yX3_notifyArrives ∈ wT := wt_in 302 (by decide +kernel) (by decide +kernel)
theorem wcode_X3_notifyArrives : Cond.code yX3_notifyArrives cX3_notifyArrives 3 none ∈ wT := wt_in 303 (by decide +kernel) (by decide +kernel)
theorem wM_X3_199 : Cond.methodLink RX3 199 yX3_handOver ∈ wT := wt_in 304 (by decide +kernel) (by decide +kernel)
theorem wi_X3_handOver : Cond.instanceMethod yX3_handOver ∈ wT := wt_in 306 (by decide +kernel) (by decide +kernel)
theorem wcode_X3_handOver : Cond.code yX3_handOver cX3_handOver 4 none ∈ wT := wt_in 307 (by decide +kernel) (by decide +kernel)
theorem wM_L_45 : Cond.methodLink RL 45 yX3_pump ∈ wT := wt_in 308 (by decide +kernel) (by decide +kernel)
theorem wi_X3_pump : Cond.instanceMethod yX3_pump ∈ wT := wt_in 309 (by decide +kernel) (by decide +kernel)
theorem wsel_X3_pump : Cond.selects RX3 yX3_pump yX3_pump ∈ wT := wt_in 310 (by decide +kernel) (by decide +kernel)
theorem wcode_X3_pump : Cond.code yX3_pump cX3_pump 3 (some .int) ∈ wT := wt_in 311 (by decide +kernel) (by decide +kernel)
theorem wM_L_49 : Cond.methodLink RL 49 yX3_flying ∈ wT := wt_in 312 (by decide +kernel) (by decide +kernel)
theorem wi_X3_flying : Cond.instanceMethod yX3_flying ∈ wT := wt_in 313 (by decide +kernel) (by decide +kernel)
theorem wsel_X3_flying : Cond.selects RX3 yX3_flying yX3_flying ∈ wT := wt_in 314 (by decide +kernel) (by decide +kernel)
theorem wcode_X3_flying : Cond.code yX3_flying cX3_flying 1 (some .int) ∈ wT := wt_in 315 (by decide +kernel) (by decide +kernel)
theorem wM_L_54 : Cond.methodLink RL 54 yX3_message ∈ wT := wt_in 316 (by decide +kernel) (by decide +kernel)
theorem wi_X3_message : Cond.instanceMethod yX3_message ∈ wT := wt_in 317 (by decide +kernel) (by decide +kernel)
theorem wsel_X3_message : Cond.selects RX3 yX3_message yX3_message ∈ wT := wt_in 318 (by decide +kernel) (by decide +kernel)
theorem wcode_X3_message : Cond.code yX3_message cX3_message 3 (some .int) ∈ wT := wt_in 319 (by decide +kernel) (by decide +kernel)
theorem wM_X3_91 : Cond.methodLink RX3 91 yX2_at ∈ wT := wt_in 320 (by decide +kernel) (by decide +kernel)
theorem wM_L_58 : Cond.methodLink RL 58 yX3_successor ∈ wT := wt_in 321 (by decide +kernel) (by decide +kernel)
theorem wi_X3_successor : Cond.instanceMethod yX3_successor ∈ wT := wt_in 322 (by decide +kernel) (by decide +kernel)
theorem wsel_X3_successor : Cond.selects RX3 yX3_successor yX3_successor ∈ wT := wt_in 323 (by decide +kernel) (by decide +kernel)
theorem wcode_X3_successor : Cond.code yX3_successor cX3_successor 3 (some .int) ∈ wT := wt_in 324 (by decide +kernel) (by decide +kernel)
theorem wM_L_62 : Cond.methodLink RL 62 yX3_predecessor ∈ wT := wt_in 325 (by decide +kernel) (by decide +kernel)
theorem wi_X3_predecessor : Cond.instanceMethod yX3_predecessor ∈ wT := wt_in 326 (by decide +kernel) (by decide +kernel)
theorem wsel_X3_predecessor : Cond.selects RX3 yX3_predecessor yX3_predecessor ∈ wT := wt_in 327 (by decide +kernel) (by decide +kernel)
theorem wcode_X3_predecessor : Cond.code yX3_predecessor cX3_predecessor 3 (some .int) ∈ wT := wt_in 328 (by decide +kernel) (by decide +kernel)
theorem wM_L_66 : Cond.methodLink RL 66 yX3_finger ∈ wT := wt_in 329 (by decide +kernel) (by decide +kernel)
theorem wi_X3_finger : Cond.instanceMethod yX3_finger ∈ wT := wt_in 330 (by decide +kernel) (by decide +kernel)
theorem wsel_X3_finger : Cond.selects RX3 yX3_finger yX3_finger ∈ wT := wt_in 331 (by decide +kernel) (by decide +kernel)
theorem wcode_X3_finger : Cond.code yX3_finger cX3_finger 4 (some .int) ∈ wT := wt_in 332 (by decide +kernel) (by decide +kernel)
theorem wM_L_71 : Cond.methodLink RL 71 yX3_entry ∈ wT := wt_in 333 (by decide +kernel) (by decide +kernel)
theorem wi_X3_entry : Cond.instanceMethod yX3_entry ∈ wT := wt_in 334 (by decide +kernel) (by decide +kernel)
theorem wsel_X3_entry : Cond.selects RX3 yX3_entry yX3_entry ∈ wT := wt_in 335 (by decide +kernel) (by decide +kernel)
theorem wcode_X3_entry : Cond.code yX3_entry cX3_entry 4 (some .long) ∈ wT := wt_in 336 (by decide +kernel) (by decide +kernel)
theorem wM_L_76 : Cond.methodLink RL 76 yX3_entries ∈ wT := wt_in 337 (by decide +kernel) (by decide +kernel)
theorem wi_X3_entries : Cond.instanceMethod yX3_entries ∈ wT := wt_in 338 (by decide +kernel) (by decide +kernel)
theorem wsel_X3_entries : Cond.selects RX3 yX3_entries yX3_entries ∈ wT := wt_in 339 (by decide +kernel) (by decide +kernel)
theorem wcode_X3_entries : Cond.code yX3_entries cX3_entries 5 (some .int) ∈ wT := wt_in 340 (by decide +kernel) (by decide +kernel)
theorem wM_L_80 : Cond.methodLink RL 80 yX3_answer ∈ wT := wt_in 341 (by decide +kernel) (by decide +kernel)
theorem wi_X3_answer : Cond.instanceMethod yX3_answer ∈ wT := wt_in 342 (by decide +kernel) (by decide +kernel)
theorem wsel_X3_answer : Cond.selects RX3 yX3_answer yX3_answer ∈ wT := wt_in 343 (by decide +kernel) (by decide +kernel)
theorem wcode_X3_answer : Cond.code yX3_answer cX3_answer 3 (some .long) ∈ wT := wt_in 344 (by decide +kernel) (by decide +kernel)
theorem wC_X3_117 : Cond.constantLong RX3 117 8589934592 ∈ wT := wt_in 345 (by decide +kernel) (by decide +kernel)
theorem wM_L_85 : Cond.methodLink RL 85 yX3_hops ∈ wT := wt_in 346 (by decide +kernel) (by decide +kernel)
theorem wi_X3_hops : Cond.instanceMethod yX3_hops ∈ wT := wt_in 347 (by decide +kernel) (by decide +kernel)
theorem wsel_X3_hops : Cond.selects RX3 yX3_hops yX3_hops ∈ wT := wt_in 348 (by decide +kernel) (by decide +kernel)
theorem wcode_X3_hops : Cond.code yX3_hops cX3_hops 3 (some .int) ∈ wT := wt_in 349 (by decide +kernel) (by decide +kernel)
theorem wM_L_89 : Cond.methodLink RL 89 yX3_owner ∈ wT := wt_in 350 (by decide +kernel) (by decide +kernel)
theorem wi_X3_owner : Cond.instanceMethod yX3_owner ∈ wT := wt_in 351 (by decide +kernel) (by decide +kernel)
theorem wsel_X3_owner : Cond.selects RX3 yX3_owner yX3_owner ∈ wT := wt_in 352 (by decide +kernel) (by decide +kernel)
theorem wcode_X3_owner : Cond.code yX3_owner cX3_owner 2 (some .int) ∈ wT := wt_in 353 (by decide +kernel) (by decide +kernel)
theorem wM_X3_125 : Cond.methodLink RX3 125 yX3_firstUpFrom ∈ wT := wt_in 354 (by decide +kernel) (by decide +kernel)
theorem wi_X3_firstUpFrom : Cond.instanceMethod yX3_firstUpFrom ∈ wT := wt_in 356 (by decide +kernel) (by decide +kernel)
theorem wcode_X3_firstUpFrom : Cond.code yX3_firstUpFrom cX3_firstUpFrom 5 (some .int) ∈ wT := wt_in 357 (by decide +kernel) (by decide +kernel)
theorem wM_L_93 : Cond.methodLink RL 93 yX3_wrong ∈ wT := wt_in 358 (by decide +kernel) (by decide +kernel)
theorem wi_X3_wrong : Cond.instanceMethod yX3_wrong ∈ wT := wt_in 359 (by decide +kernel) (by decide +kernel)
theorem wsel_X3_wrong : Cond.selects RX3 yX3_wrong yX3_wrong ∈ wT := wt_in 360 (by decide +kernel) (by decide +kernel)
theorem wcode_X3_wrong : Cond.code yX3_wrong cX3_wrong 3 (some .int) ∈ wT := wt_in 361 (by decide +kernel) (by decide +kernel)
theorem wM_X3_131 : Cond.methodLink RX3 131 yX3_wrongPointers ∈ wT := wt_in 362 (by decide +kernel) (by decide +kernel)
theorem wi_X3_wrongPointers : Cond.instanceMethod yX3_wrongPointers ∈ wT := wt_in 364 (by decide +kernel) (by decide +kernel)
theorem wcode_X3_wrongPointers : Cond.code yX3_wrongPointers cX3_wrongPointers 4 (some .int) ∈ wT := wt_in 365 (by decide +kernel) (by decide +kernel)
theorem wM_X3_144 : Cond.methodLink RX3 144 yX3_firstDownFrom ∈ wT := wt_in 366 (by decide +kernel) (by decide +kernel)
theorem wi_X3_firstDownFrom : Cond.instanceMethod yX3_firstDownFrom ∈ wT := wt_in 368 (by decide +kernel) (by decide +kernel)
theorem wcode_X3_firstDownFrom : Cond.code yX3_firstDownFrom cX3_firstDownFrom 5 (some .int) ∈ wT := wt_in 369 (by decide +kernel) (by decide +kernel)
theorem wM_L_97 : Cond.methodLink RL 97 yX3_misplaced ∈ wT := wt_in 370 (by decide +kernel) (by decide +kernel)
theorem wi_X3_misplaced : Cond.instanceMethod yX3_misplaced ∈ wT := wt_in 371 (by decide +kernel) (by decide +kernel)
theorem wsel_X3_misplaced : Cond.selects RX3 yX3_misplaced yX3_misplaced ∈ wT := wt_in 372 (by decide +kernel) (by decide +kernel)
theorem wcode_X3_misplaced : Cond.code yX3_misplaced cX3_misplaced 5 (some .int) ∈ wT := wt_in 373 (by decide +kernel) (by decide +kernel)
theorem wK_L_10 : Cond.classLink RL 10 RX4 ∈ wT := wt_in 374 (by decide +kernel) (by decide +kernel)
theorem wnew_X4 : Cond.instantiable RX4 22 ∈ wT := wt_in 375 (by decide +kernel) (by decide +kernel)
theorem wM_L_12 : Cond.methodLink RL 12 yX4_init ∈ wT := wt_in 376 (by decide +kernel) (by decide +kernel)
theorem wi_X4_init : Cond.instanceMethod yX4_init ∈ wT := wt_in 377 (by decide +kernel) (by decide +kernel)
theorem wcode_X4_init : Cond.code yX4_init cX4_init 2 none ∈ wT := wt_in 378 (by decide +kernel) (by decide +kernel)
theorem wM_X4_1 : Cond.methodLink RX4 1 yOB_init ∈ wT := wt_in 379 (by decide +kernel) (by decide +kernel)
theorem wC_X4_65 : Cond.constantLong RX4 65 8589934592 ∈ wT := wt_in 380 (by decide +kernel) (by decide +kernel)
theorem wF_X4_83 : Cond.fieldLink RX4 83 "FingerOverlayModel" "nodes" "I" ∈ wT := wt_in 381 (by decide +kernel) (by decide +kernel)
theorem wF_X4_7 : Cond.fieldLink RX4 7 "FingerOverlayModel" "rank" "[I" ∈ wT := wt_in 382 (by decide +kernel) (by decide +kernel)
theorem wF_X4_13 : Cond.fieldLink RX4 13 "FingerOverlayModel" "after" "[I" ∈ wT := wt_in 383 (by decide +kernel) (by decide +kernel)
theorem wF_X4_16 : Cond.fieldLink RX4 16 "FingerOverlayModel" "before" "[I" ∈ wT := wt_in 384 (by decide +kernel) (by decide +kernel)
theorem wF_X4_19 : Cond.fieldLink RX4 19 "FingerOverlayModel" "pointer" "[I" ∈ wT := wt_in 385 (by decide +kernel) (by decide +kernel)
theorem wF_X4_22 : Cond.fieldLink RX4 22 "FingerOverlayModel" "told" "[J" ∈ wT := wt_in 386 (by decide +kernel) (by decide +kernel)
theorem wF_X4_26 : Cond.fieldLink RX4 26 "FingerOverlayModel" "way" "[I" ∈ wT := wt_in 387 (by decide +kernel) (by decide +kernel)
theorem wF_X4_96 : Cond.fieldLink RX4 96 "FingerOverlayModel" "kept" "I" ∈ wT := wt_in 388 (by decide +kernel) (by decide +kernel)
theorem wF_X4_29 : Cond.fieldLink RX4 29 "FingerOverlayModel" "keptAt" "[I" ∈ wT := wt_in 389 (by decide +kernel) (by decide +kernel)
theorem wF_X4_32 : Cond.fieldLink RX4 32 "FingerOverlayModel" "keptKey" "[I" ∈ wT := wt_in 390 (by decide +kernel) (by decide +kernel)
theorem wF_X4_35 : Cond.fieldLink RX4 35 "FingerOverlayModel" "keptValue" "[I" ∈ wT := wt_in 391 (by decide +kernel) (by decide +kernel)
theorem wF_X4_93 : Cond.fieldLink RX4 93 "FingerOverlayModel" "keys" "I" ∈ wT := wt_in 392 (by decide +kernel) (by decide +kernel)
theorem wF_X4_38 : Cond.fieldLink RX4 38 "FingerOverlayModel" "putKey" "[I" ∈ wT := wt_in 393 (by decide +kernel) (by decide +kernel)
theorem wF_X4_75 : Cond.fieldLink RX4 75 "FingerOverlayModel" "row" "I" ∈ wT := wt_in 394 (by decide +kernel) (by decide +kernel)
theorem wF_X4_41 : Cond.fieldLink RX4 41 "FingerOverlayModel" "kind" "[I" ∈ wT := wt_in 395 (by decide +kernel) (by decide +kernel)
theorem wF_X4_44 : Cond.fieldLink RX4 44 "FingerOverlayModel" "to" "[I" ∈ wT := wt_in 396 (by decide +kernel) (by decide +kernel)
theorem wF_X4_47 : Cond.fieldLink RX4 47 "FingerOverlayModel" "key" "[I" ∈ wT := wt_in 397 (by decide +kernel) (by decide +kernel)
theorem wF_X4_50 : Cond.fieldLink RX4 50 "FingerOverlayModel" "purpose" "[I" ∈ wT := wt_in 398 (by decide +kernel) (by decide +kernel)
theorem wF_X4_53 : Cond.fieldLink RX4 53 "FingerOverlayModel" "part" "[I" ∈ wT := wt_in 399 (by decide +kernel) (by decide +kernel)
theorem wF_X4_56 : Cond.fieldLink RX4 56 "FingerOverlayModel" "asker" "[I" ∈ wT := wt_in 400 (by decide +kernel) (by decide +kernel)
theorem wF_X4_59 : Cond.fieldLink RX4 59 "FingerOverlayModel" "hop" "[I" ∈ wT := wt_in 401 (by decide +kernel) (by decide +kernel)
theorem wF_X4_62 : Cond.fieldLink RX4 62 "FingerOverlayModel" "brings" "[J" ∈ wT := wt_in 402 (by decide +kernel) (by decide +kernel)
theorem wM_L_17 : Cond.methodLink RL 17 yX4_create ∈ wT := wt_in 448 (by decide +kernel) (by decide +kernel)
theorem wi_X4_create : Cond.instanceMethod yX4_create ∈ wT := wt_in 449 (by decide +kernel) (by decide +kernel)
theorem wsel_X4_create : Cond.selects RX4 yX4_create yX4_create ∈ wT := wt_in 450 (by decide +kernel) (by decide +kernel)
theorem wcode_X4_create : Cond.code yX4_create cX4_create 2 (some .boolean) ∈ wT := wt_in 451 (by decide +kernel) (by decide +kernel)
theorem wM_X4_67 : Cond.methodLink RX4 67 yX4_isId ∈ wT := wt_in 452 (by decide +kernel) (by decide +kernel)
theorem wst_X4_isId : Cond.static yX4_isId ∈ wT := wt_in 453 (by decide +kernel) (by decide +kernel)
theorem wcode_X4_isId : Cond.code yX4_isId cX4_isId 1 (some .boolean) ∈ wT := wt_in 454 (by decide +kernel) (by decide +kernel)
theorem wM_L_22 : Cond.methodLink RL 22 yX4_join ∈ wT := wt_in 455 (by decide +kernel) (by decide +kernel)
theorem wi_X4_join : Cond.instanceMethod yX4_join ∈ wT := wt_in 456 (by decide +kernel) (by decide +kernel)
theorem wsel_X4_join : Cond.selects RX4 yX4_join yX4_join ∈ wT := wt_in 457 (by decide +kernel) (by decide +kernel)
theorem wcode_X4_join : Cond.code yX4_join cX4_join 3 (some .boolean) ∈ wT := wt_in 458 (by decide +kernel) (by decide +kernel)
theorem wM_X4_86 : Cond.methodLink RX4 86 yX4_isMember ∈ wT := wt_in 459 (by decide +kernel) (by decide +kernel)
theorem wi_X4_isMember : Cond.instanceMethod yX4_isMember ∈ wT := wt_in 461 (by decide +kernel) (by decide +kernel)
theorem wcode_X4_isMember : Cond.code yX4_isMember cX4_isMember 2 (some .boolean) ∈ wT := wt_in 462 (by decide +kernel) (by decide +kernel)
theorem wM_X4_89 : Cond.methodLink RX4 89 yX4_ask ∈ wT := wt_in 463 (by decide +kernel) (by decide +kernel)
theorem wi_X4_ask : Cond.instanceMethod yX4_ask ∈ wT := wt_in 465 (by decide +kernel) (by decide +kernel)
theorem wcode_X4_ask : Cond.code yX4_ask cX4_ask 7 none ∈ wT := wt_in 466 (by decide +kernel) (by decide +kernel)
theorem wM_X4_79 : Cond.methodLink RX4 79 yX4_post ∈ wT := wt_in 467 (by decide +kernel) (by decide +kernel)
theorem wi_X4_post : Cond.instanceMethod yX4_post ∈ wT := wt_in 469 (by decide +kernel) (by decide +kernel)
theorem wcode_X4_post : Cond.code yX4_post cX4_post 5 none ∈ wT := wt_in 470 (by decide +kernel) (by decide +kernel)
theorem wM_L_26 : Cond.methodLink RL 26 yX4_stabilise ∈ wT := wt_in 471 (by decide +kernel) (by decide +kernel)
theorem wi_X4_stabilise : Cond.instanceMethod yX4_stabilise ∈ wT := wt_in 472 (by decide +kernel) (by decide +kernel)
theorem wsel_X4_stabilise : Cond.selects RX4 yX4_stabilise yX4_stabilise ∈ wT := wt_in 473 (by decide +kernel) (by decide +kernel)
theorem wcode_X4_stabilise : Cond.code yX4_stabilise cX4_stabilise 2 (some .boolean) ∈ wT := wt_in 474 (by decide +kernel) (by decide +kernel)
theorem wM_L_30 : Cond.methodLink RL 30 yX4_fix ∈ wT := wt_in 475 (by decide +kernel) (by decide +kernel)
theorem wi_X4_fix : Cond.instanceMethod yX4_fix ∈ wT := wt_in 476 (by decide +kernel) (by decide +kernel)
theorem wsel_X4_fix : Cond.selects RX4 yX4_fix yX4_fix ∈ wT := wt_in 477 (by decide +kernel) (by decide +kernel)
theorem wcode_X4_fix : Cond.code yX4_fix cX4_fix 3 (some .boolean) ∈ wT := wt_in 478 (by decide +kernel) (by decide +kernel)
theorem wM_L_35 : Cond.methodLink RL 35 yX4_put ∈ wT := wt_in 479 (by decide +kernel) (by decide +kernel)
theorem wi_X4_put : Cond.instanceMethod yX4_put ∈ wT := wt_in 480 (by decide +kernel) (by decide +kernel)
theorem wsel_X4_put : Cond.selects RX4 yX4_put yX4_put ∈ wT := wt_in 481 (by decide +kernel) (by decide +kernel)
theorem wcode_X4_put : Cond.code yX4_put cX4_put 6 (some .boolean) ∈ wT := wt_in 482 (by decide +kernel) (by decide +kernel)
theorem wM_L_39 : Cond.methodLink RL 39 yX4_get ∈ wT := wt_in 483 (by decide +kernel) (by decide +kernel)
theorem wi_X4_get : Cond.instanceMethod yX4_get ∈ wT := wt_in 484 (by decide +kernel) (by decide +kernel)
theorem wsel_X4_get : Cond.selects RX4 yX4_get yX4_get ∈ wT := wt_in 485 (by decide +kernel) (by decide +kernel)
theorem wcode_X4_get : Cond.code yX4_get cX4_get 3 (some .boolean) ∈ wT := wt_in 486 (by decide +kernel) (by decide +kernel)
theorem wM_L_44 : Cond.methodLink RL 44 yX4_deliver ∈ wT := wt_in 487 (by decide +kernel) (by decide +kernel)
theorem wi_X4_deliver : Cond.instanceMethod yX4_deliver ∈ wT := wt_in 488 (by decide +kernel) (by decide +kernel)
theorem wsel_X4_deliver : Cond.selects RX4 yX4_deliver yX4_deliver ∈ wT := wt_in 489 (by decide +kernel) (by decide +kernel)
theorem wcode_X4_deliver : Cond.code yX4_deliver cX4_deliver 3 (some .int) ∈ wT := wt_in 490 (by decide +kernel) (by decide +kernel)
theorem wM_X4_138 : Cond.methodLink RX4 138 yX4_arrive ∈ wT := wt_in 491 (by decide +kernel) (by decide +kernel)
theorem wi_X4_arrive : Cond.instanceMethod yX4_arrive ∈ wT := wt_in 493 (by decide +kernel) (by decide +kernel)
theorem wcode_X4_arrive : Cond.code yX4_arrive cX4_arrive 3 none ∈ wT := wt_in 494 (by decide +kernel) (by decide +kernel)
theorem wM_X4_111 : Cond.methodLink RX4 111 yX4_copy ∈ wT := wt_in 495 (by decide +kernel) (by decide +kernel)
theorem wi_X4_copy : Cond.instanceMethod yX4_copy ∈ wT := wt_in 497 (by decide +kernel) (by decide +kernel)
theorem wcode_X4_copy : Cond.code yX4_copy cX4_copy 3 none ∈ wT := wt_in 498 (by decide +kernel) (by decide +kernel)
theorem wM_X4_115 : Cond.methodLink RX4 115 yX4_find ∈ wT := wt_in 499 (by decide +kernel) (by decide +kernel)
theorem wi_X4_find : Cond.instanceMethod yX4_find ∈ wT := wt_in 501 (by decide +kernel) (by decide +kernel)
theorem wcode_X4_find : Cond.code yX4_find cX4_find 6 none ∈ wT := wt_in 502 (by decide +kernel) (by decide +kernel)
theorem wM_X4_71 : Cond.methodLink RX4 71 yX4_past ∈ wT := wt_in 503 (by decide +kernel) (by decide +kernel)
theorem wst_X4_past : Cond.static yX4_past ∈ wT := wt_in 504 (by decide +kernel) (by decide +kernel)
theorem wcode_X4_past : Cond.code yX4_past cX4_past 5 (some .boolean) ∈ wT := wt_in 505 (by decide +kernel) (by decide +kernel)
theorem wM_X4_130 : Cond.methodLink RX4 130 yX4_between ∈ wT := wt_in 506 (by decide +kernel) (by decide +kernel)
theorem wst_X4_between : Cond.static yX4_between ∈ wT := wt_in 507 (by decide +kernel) (by decide +kernel)
theorem wcode_X4_between : Cond.code yX4_between cX4_between 3 (some .boolean) ∈ wT := wt_in 508 (by decide +kernel) (by decide +kernel)
theorem wM_X4_118 : Cond.methodLink RX4 118 yX4_found ∈ wT := wt_in 509 (by decide +kernel) (by decide +kernel)
theorem wi_X4_found : Cond.instanceMethod yX4_found ∈ wT := wt_in 511 (by decide +kernel) (by decide +kernel)
theorem wcode_X4_found : Cond.code yX4_found cX4_found 3 none ∈ wT := wt_in 512 (by decide +kernel) (by decide +kernel)
theorem wM_X4_107 : Cond.methodLink RX4 107 yX4_keep ∈ wT := wt_in 513 (by decide +kernel) (by decide +kernel)
theorem wi_X4_keep : Cond.instanceMethod yX4_keep ∈ wT := wt_in 515 (by decide +kernel) (by decide +kernel)
theorem wcode_X4_keep : Cond.code yX4_keep cX4_keep 5 none ∈ wT := wt_in 516 (by decide +kernel) (by decide +kernel)
theorem wM_X4_99 : Cond.methodLink RX4 99 yX4_entryAt ∈ wT := wt_in 517 (by decide +kernel) (by decide +kernel)
theorem wi_X4_entryAt : Cond.instanceMethod yX4_entryAt ∈ wT := wt_in 519 (by decide +kernel) (by decide +kernel)
theorem wcode_X4_entryAt : Cond.code yX4_entryAt cX4_entryAt 5 (some .int) ∈ wT := wt_in 520 (by decide +kernel) (by decide +kernel)
theorem wM_X4_121 : Cond.methodLink RX4 121 yX4_fetch ∈ wT := wt_in 521 (by decide +kernel) (by decide +kernel)
theorem wi_X4_fetch : Cond.instanceMethod yX4_fetch ∈ wT := wt_in 523 (by decide +kernel) (by decide +kernel)
theorem wcode_X4_fetch : Cond.code yX4_fetch cX4_fetch 3 none ∈ wT := wt_in 524 (by decide +kernel) (by decide +kernel)
theorem wC_X4_133 : Cond.constantLong RX4 133 4294967296 ∈ wT := wt_in 525 (by decide +kernel) (by decide +kernel)
theorem wM_X4_124 : Cond.methodLink RX4 124 yX4_tell ∈ wT := wt_in 526 (by decide +kernel) (by decide +kernel)
theorem wi_X4_tell : Cond.instanceMethod yX4_tell ∈ wT := wt_in 528 (by decide +kernel) (by decide +kernel)
theorem wcode_X4_tell : Cond.code yX4_tell cX4_tell 3 none ∈ wT := wt_in 529 (by decide +kernel) (by decide +kernel)
theorem wM_X4_127 : Cond.methodLink RX4 127 yX4_notified ∈ wT := wt_in 530 (by decide +kernel) (by decide +kernel)
theorem wi_X4_notified : Cond.instanceMethod yX4_notified ∈ wT := wt_in 532 (by decide +kernel) (by decide +kernel)
theorem wcode_X4_notified : Cond.code yX4_notified cX4_notified 3 none ∈ wT := wt_in 533 (by decide +kernel) (by decide +kernel)
theorem wM_X4_135 : Cond.methodLink RX4 135 yX4_handOver ∈ wT := wt_in 534 (by decide +kernel) (by decide +kernel)
theorem wi_X4_handOver : Cond.instanceMethod yX4_handOver ∈ wT := wt_in 536 (by decide +kernel) (by decide +kernel)
theorem wcode_X4_handOver : Cond.code yX4_handOver cX4_handOver 6 none ∈ wT := wt_in 537 (by decide +kernel) (by decide +kernel)
theorem wM_X4_103 : Cond.methodLink RX4 103 yX4_dropEntry ∈ wT := wt_in 538 (by decide +kernel) (by decide +kernel)
theorem wi_X4_dropEntry : Cond.instanceMethod yX4_dropEntry ∈ wT := wt_in 540 (by decide +kernel) (by decide +kernel)
theorem wcode_X4_dropEntry : Cond.code yX4_dropEntry cX4_dropEntry 3 none ∈ wT := wt_in 541 (by decide +kernel) (by decide +kernel)
theorem wM_L_48 : Cond.methodLink RL 48 yX4_pump ∈ wT := wt_in 542 (by decide +kernel) (by decide +kernel)
theorem wi_X4_pump : Cond.instanceMethod yX4_pump ∈ wT := wt_in 543 (by decide +kernel) (by decide +kernel)
theorem wsel_X4_pump : Cond.selects RX4 yX4_pump yX4_pump ∈ wT := wt_in 544 (by decide +kernel) (by decide +kernel)
theorem wcode_X4_pump : Cond.code yX4_pump cX4_pump 3 (some .int) ∈ wT := wt_in 545 (by decide +kernel) (by decide +kernel)
theorem wM_L_53 : Cond.methodLink RL 53 yX4_flying ∈ wT := wt_in 546 (by decide +kernel) (by decide +kernel)
theorem wi_X4_flying : Cond.instanceMethod yX4_flying ∈ wT := wt_in 547 (by decide +kernel) (by decide +kernel)
theorem wsel_X4_flying : Cond.selects RX4 yX4_flying yX4_flying ∈ wT := wt_in 548 (by decide +kernel) (by decide +kernel)
theorem wcode_X4_flying : Cond.code yX4_flying cX4_flying 1 (some .int) ∈ wT := wt_in 549 (by decide +kernel) (by decide +kernel)
theorem wM_L_57 : Cond.methodLink RL 57 yX4_message ∈ wT := wt_in 550 (by decide +kernel) (by decide +kernel)
theorem wi_X4_message : Cond.instanceMethod yX4_message ∈ wT := wt_in 551 (by decide +kernel) (by decide +kernel)
theorem wsel_X4_message : Cond.selects RX4 yX4_message yX4_message ∈ wT := wt_in 552 (by decide +kernel) (by decide +kernel)
theorem wcode_X4_message : Cond.code yX4_message cX4_message 2 (some .int) ∈ wT := wt_in 553 (by decide +kernel) (by decide +kernel)
theorem wM_L_61 : Cond.methodLink RL 61 yX4_successor ∈ wT := wt_in 554 (by decide +kernel) (by decide +kernel)
theorem wi_X4_successor : Cond.instanceMethod yX4_successor ∈ wT := wt_in 555 (by decide +kernel) (by decide +kernel)
theorem wsel_X4_successor : Cond.selects RX4 yX4_successor yX4_successor ∈ wT := wt_in 556 (by decide +kernel) (by decide +kernel)
theorem wcode_X4_successor : Cond.code yX4_successor cX4_successor 2 (some .int) ∈ wT := wt_in 557 (by decide +kernel) (by decide +kernel)
theorem wM_L_65 : Cond.methodLink RL 65 yX4_predecessor ∈ wT := wt_in 558 (by decide +kernel) (by decide +kernel)
theorem wi_X4_predecessor : Cond.instanceMethod yX4_predecessor ∈ wT := wt_in 559 (by decide +kernel) (by decide +kernel)
theorem wsel_X4_predecessor : Cond.selects RX4 yX4_predecessor yX4_predecessor ∈ wT := wt_in 560 (by decide +kernel) (by decide +kernel)
theorem wcode_X4_predecessor : Cond.code yX4_predecessor cX4_predecessor 2 (some .int) ∈ wT := wt_in 561 (by decide +kernel) (by decide +kernel)
theorem wM_L_70 : Cond.methodLink RL 70 yX4_finger ∈ wT := wt_in 562 (by decide +kernel) (by decide +kernel)
theorem wi_X4_finger : Cond.instanceMethod yX4_finger ∈ wT := wt_in 563 (by decide +kernel) (by decide +kernel)
theorem wsel_X4_finger : Cond.selects RX4 yX4_finger yX4_finger ∈ wT := wt_in 564 (by decide +kernel) (by decide +kernel)
theorem wcode_X4_finger : Cond.code yX4_finger cX4_finger 3 (some .int) ∈ wT := wt_in 565 (by decide +kernel) (by decide +kernel)
theorem wM_L_75 : Cond.methodLink RL 75 yX4_entry ∈ wT := wt_in 566 (by decide +kernel) (by decide +kernel)
theorem wi_X4_entry : Cond.instanceMethod yX4_entry ∈ wT := wt_in 567 (by decide +kernel) (by decide +kernel)
theorem wsel_X4_entry : Cond.selects RX4 yX4_entry yX4_entry ∈ wT := wt_in 568 (by decide +kernel) (by decide +kernel)
theorem wcode_X4_entry : Cond.code yX4_entry cX4_entry 4 (some .long) ∈ wT := wt_in 569 (by decide +kernel) (by decide +kernel)
theorem wM_L_79 : Cond.methodLink RL 79 yX4_entries ∈ wT := wt_in 570 (by decide +kernel) (by decide +kernel)
theorem wi_X4_entries : Cond.instanceMethod yX4_entries ∈ wT := wt_in 571 (by decide +kernel) (by decide +kernel)
theorem wsel_X4_entries : Cond.selects RX4 yX4_entries yX4_entries ∈ wT := wt_in 572 (by decide +kernel) (by decide +kernel)
theorem wcode_X4_entries : Cond.code yX4_entries cX4_entries 4 (some .int) ∈ wT := wt_in 573 (by decide +kernel) (by decide +kernel)
theorem wM_L_84 : Cond.methodLink RL 84 yX4_answer ∈ wT := wt_in 574 (by decide +kernel) (by decide +kernel)
theorem wi_X4_answer : Cond.instanceMethod yX4_answer ∈ wT := wt_in 575 (by decide +kernel) (by decide +kernel)
theorem wsel_X4_answer : Cond.selects RX4 yX4_answer yX4_answer ∈ wT := wt_in 576 (by decide +kernel) (by decide +kernel)
theorem wcode_X4_answer : Cond.code yX4_answer cX4_answer 2 (some .long) ∈ wT := wt_in 577 (by decide +kernel) (by decide +kernel)
theorem wM_L_88 : Cond.methodLink RL 88 yX4_hops ∈ wT := wt_in 578 (by decide +kernel) (by decide +kernel)
theorem wi_X4_hops : Cond.instanceMethod yX4_hops ∈ wT := wt_in 579 (by decide +kernel) (by decide +kernel)
theorem wsel_X4_hops : Cond.selects RX4 yX4_hops yX4_hops ∈ wT := wt_in 580 (by decide +kernel) (by decide +kernel)
theorem wcode_X4_hops : Cond.code yX4_hops cX4_hops 2 (some .int) ∈ wT := wt_in 581 (by decide +kernel) (by decide +kernel)
theorem wM_L_92 : Cond.methodLink RL 92 yX4_owner ∈ wT := wt_in 582 (by decide +kernel) (by decide +kernel)
theorem wi_X4_owner : Cond.instanceMethod yX4_owner ∈ wT := wt_in 583 (by decide +kernel) (by decide +kernel)
theorem wsel_X4_owner : Cond.selects RX4 yX4_owner yX4_owner ∈ wT := wt_in 584 (by decide +kernel) (by decide +kernel)
theorem wcode_X4_owner : Cond.code yX4_owner cX4_owner 2 (some .int) ∈ wT := wt_in 585 (by decide +kernel) (by decide +kernel)
theorem wM_X4_141 : Cond.methodLink RX4 141 yX4_first ∈ wT := wt_in 586 (by decide +kernel) (by decide +kernel)
theorem wi_X4_first : Cond.instanceMethod yX4_first ∈ wT := wt_in 588 (by decide +kernel) (by decide +kernel)
theorem wcode_X4_first : Cond.code yX4_first cX4_first 5 (some .int) ∈ wT := wt_in 589 (by decide +kernel) (by decide +kernel)
theorem wM_L_96 : Cond.methodLink RL 96 yX4_wrong ∈ wT := wt_in 590 (by decide +kernel) (by decide +kernel)
theorem wi_X4_wrong : Cond.instanceMethod yX4_wrong ∈ wT := wt_in 591 (by decide +kernel) (by decide +kernel)
theorem wsel_X4_wrong : Cond.selects RX4 yX4_wrong yX4_wrong ∈ wT := wt_in 592 (by decide +kernel) (by decide +kernel)
theorem wcode_X4_wrong : Cond.code yX4_wrong cX4_wrong 4 (some .int) ∈ wT := wt_in 593 (by decide +kernel) (by decide +kernel)
theorem wM_L_100 : Cond.methodLink RL 100 yX4_misplaced ∈ wT := wt_in 594 (by decide +kernel) (by decide +kernel)
theorem wi_X4_misplaced : Cond.instanceMethod yX4_misplaced ∈ wT := wt_in 595 (by decide +kernel) (by decide +kernel)
theorem wsel_X4_misplaced : Cond.selects RX4 yX4_misplaced yX4_misplaced ∈ wT := wt_in 596 (by decide +kernel) (by decide +kernel)
theorem wcode_X4_misplaced : Cond.code yX4_misplaced cX4_misplaced 3 (some .int) ∈ wT := wt_in 597 (by decide +kernel) (by decide +kernel)
theorem inX0 : ∀ w ∈ u_ws RX0 TX0 9, w ∈ wT := by
  have h : (u_ws RX0 TX0 9).all (fun w => decide (w ∈ lw_tbl) && goodWord w) = true := by decide +kernel
  intro w hw
  have h1 := List.all_eq_true.mp h w hw
  rw [Bool.and_eq_true, decide_eq_true_eq] at h1
  exact List.mem_filter.mpr h1
theorem inX1 : ∀ w ∈ u_ws RX1 TX1 7, w ∈ wT := by
  have h : (u_ws RX1 TX1 7).all (fun w => decide (w ∈ lw_tbl) && goodWord w) = true := by decide +kernel
  intro w hw
  have h1 := List.all_eq_true.mp h w hw
  rw [Bool.and_eq_true, decide_eq_true_eq] at h1
  exact List.mem_filter.mpr h1
theorem inX2 : ∀ w ∈ u_ws RX2 TX2 2, w ∈ wT := by
  have h : (u_ws RX2 TX2 2).all (fun w => decide (w ∈ lw_tbl) && goodWord w) = true := by decide +kernel
  intro w hw
  have h1 := List.all_eq_true.mp h w hw
  rw [Bool.and_eq_true, decide_eq_true_eq] at h1
  exact List.mem_filter.mpr h1
theorem inX3 : ∀ w ∈ u_ws RX3 TX3 5, w ∈ wT := by
  have h : (u_ws RX3 TX3 5).all (fun w => decide (w ∈ lw_tbl) && goodWord w) = true := by decide +kernel
  intro w hw
  have h1 := List.all_eq_true.mp h w hw
  rw [Bool.and_eq_true, decide_eq_true_eq] at h1
  exact List.mem_filter.mpr h1
theorem inX4 : ∀ w ∈ u_ws RX4 TX4 22, w ∈ wT := by
  have h : (u_ws RX4 TX4 22).all (fun w => decide (w ∈ lw_tbl) && goodWord w) = true := by decide +kernel
  intro w hw
  have h1 := List.all_eq_true.mp h w hw
  rw [Bool.and_eq_true, decide_eq_true_eq] at h1
  exact List.mem_filter.mpr h1
theorem gd_0 {c0 c1 : Cond} (h : c1 ∈ wT) : GoodIn (c0 :: wT) (c1 :: wT) := fun w hw => by
  rcases List.mem_cons.mp hw with rfl | hw
  · exact ⟨List.mem_cons_of_mem _ h, wt_good h⟩
  · exact ⟨List.mem_cons_of_mem _ hw, wt_good hw⟩
theorem gd_in {c0 w : Cond} (h : w ∈ wT) : w ∈ (c0 :: wT) ∧ ((w.onTables && w.keeps) = true ∨ ∃ ty, w = .arrayClass ty) := ⟨List.mem_cons_of_mem _ h, wt_good h⟩
theorem gd_V {c0 c1 : Cond} {own C : String} {idx : Nat} {y : MethodName} (h1 : Cond.methodLink own idx y ∈ wT) (h2 : Cond.instanceMethod y ∈ wT) (h3 : Cond.selects C y y ∈ wT) (h4 : Cond.initialized C ∈ wT) (h5 : c1 ∈ wT) : GoodIn (c0 :: wT) (wsV own idx C y (c1 :: wT)) := by
  intro w hw
  unfold wsV at hw
  rcases List.mem_append.mp hw with hw | hw
  · simp only [List.mem_cons, List.not_mem_nil, or_false] at hw
    rcases hw with rfl | rfl | rfl | rfl
    · exact gd_in h1
    · exact gd_in h2
    · exact gd_in h3
    · exact gd_in h4
  · exact gd_0 h5 w hw
theorem gd_S {c0 c1 : Cond} {own : String} {idx : Nat} {y : MethodName} (h1 : Cond.methodLink own idx y ∈ wT) (h2 : Cond.static y ∈ wT) (h4 : Cond.initialized own ∈ wT) (h5 : c1 ∈ wT) : GoodIn (c0 :: wT) (wsS own idx y (c1 :: wT)) := by
  intro w hw
  unfold wsS at hw
  rcases List.mem_append.mp hw with hw | hw
  · simp only [List.mem_cons, List.not_mem_nil, or_false] at hw
    rcases hw with rfl | rfl | rfl
    · exact gd_in h1
    · exact gd_in h2
    · exact gd_in h4
  · exact gd_0 h5 w hw
theorem gd_J {c0 c1 : Cond} {own : String} {idx : Nat} {y : MethodName} (h1 : Cond.methodLink own idx y ∈ wT) (h2 : Cond.static y ∈ wT) (h4 : Cond.initialized y.cls ∈ wT) (h5 : c1 ∈ wT) : GoodIn (c0 :: wT) (va_wsS own idx y (c1 :: wT)) := by
  intro w hw
  unfold va_wsS at hw
  rcases List.mem_append.mp hw with hw | hw
  · simp only [List.mem_cons, List.not_mem_nil, or_false] at hw
    rcases hw with rfl | rfl | rfl
    · exact gd_in h1
    · exact gd_in h2
    · exact gd_in h4
  · exact gd_0 h5 w hw
end
section
/-! The class, instruction by instruction. -/
theorem dX0_init_0 : decode cX0_init 0 = .ok (.aload_n 0, 1) := by decide +kernel
theorem dX0_init_1 : decode cX0_init 1 = .ok (.invokespecial 1, 3) := by decide +kernel
theorem dX0_init_4 : decode cX0_init 4 = .ok (.return_, 1) := by decide +kernel
theorem dX1_init_0 : decode cX1_init 0 = .ok (.aload_n 0, 1) := by decide +kernel
theorem dX1_init_1 : decode cX1_init 1 = .ok (.invokespecial 3, 3) := by decide +kernel
theorem dX1_init_4 : decode cX1_init 4 = .ok (.aload_n 0, 1) := by decide +kernel
theorem dX1_init_5 : decode cX1_init 5 = .ok (.iconst (-1), 1) := by decide +kernel
theorem dX1_init_6 : decode cX1_init 6 = .ok (.putfield 9, 3) := by decide +kernel
theorem dX1_init_9 : decode cX1_init 9 = .ok (.aload_n 0, 1) := by decide +kernel
theorem dX1_init_10 : decode cX1_init 10 = .ok (.iconst (-1), 1) := by decide +kernel
theorem dX1_init_11 : decode cX1_init 11 = .ok (.putfield 15, 3) := by decide +kernel
theorem dX1_init_14 : decode cX1_init 14 = .ok (.aload_n 0, 1) := by decide +kernel
theorem dX1_init_15 : decode cX1_init 15 = .ok (.bipush 8, 2) := by decide +kernel
theorem dX1_init_17 : decode cX1_init 17 = .ok (.newarray .int, 2) := by decide +kernel
theorem dX1_init_19 : decode cX1_init 19 = .ok (.putfield 18, 3) := by decide +kernel
theorem dX1_init_22 : decode cX1_init 22 = .ok (.aload_n 0, 1) := by decide +kernel
theorem dX1_init_23 : decode cX1_init 23 = .ok (.bipush 10, 2) := by decide +kernel
theorem dX1_init_25 : decode cX1_init 25 = .ok (.newarray .long, 2) := by decide +kernel
theorem dX1_init_27 : decode cX1_init 27 = .ok (.putfield 22, 3) := by decide +kernel
theorem dX1_init_30 : decode cX1_init 30 = .ok (.aload_n 0, 1) := by decide +kernel
theorem dX1_init_31 : decode cX1_init 31 = .ok (.ldc2_w 26, 3) := by decide +kernel
theorem dX1_init_34 : decode cX1_init 34 = .ok (.putfield 28, 3) := by decide +kernel
theorem dX1_init_37 : decode cX1_init 37 = .ok (.aload_n 0, 1) := by decide +kernel
theorem dX1_init_38 : decode cX1_init 38 = .ok (.iconst 0, 1) := by decide +kernel
theorem dX1_init_39 : decode cX1_init 39 = .ok (.putfield 32, 3) := by decide +kernel
theorem dX1_init_42 : decode cX1_init 42 = .ok (.aload_n 0, 1) := by decide +kernel
theorem dX1_init_43 : decode cX1_init 43 = .ok (.iload_n 1, 1) := by decide +kernel
theorem dX1_init_44 : decode cX1_init 44 = .ok (.putfield 35, 3) := by decide +kernel
theorem dX1_init_47 : decode cX1_init 47 = .ok (.aload_n 0, 1) := by decide +kernel
theorem dX1_init_48 : decode cX1_init 48 = .ok (.getfield 18, 3) := by decide +kernel
theorem dX1_init_51 : decode cX1_init 51 = .ok (.iconst (-1), 1) := by decide +kernel
theorem dX1_init_52 : decode cX1_init 52 = .ok (.invokestatic 38, 3) := by decide +kernel
theorem dX1_init_55 : decode cX1_init 55 = .ok (.aload_n 0, 1) := by decide +kernel
theorem dX1_init_56 : decode cX1_init 56 = .ok (.getfield 22, 3) := by decide +kernel
theorem dX1_init_59 : decode cX1_init 59 = .ok (.ldc2_w 44, 3) := by decide +kernel
theorem dX1_init_62 : decode cX1_init 62 = .ok (.invokestatic 46, 3) := by decide +kernel
theorem dX1_init_65 : decode cX1_init 65 = .ok (.return_, 1) := by decide +kernel
theorem dX1_isMember_0 : decode cX1_isMember 0 = .ok (.aload_n 0, 1) := by decide +kernel
theorem dX1_isMember_1 : decode cX1_isMember 1 = .ok (.getfield 9, 3) := by decide +kernel
theorem dX1_isMember_4 : decode cX1_isMember 4 = .ok (.iconst (-1), 1) := by decide +kernel
theorem dX1_isMember_5 : decode cX1_isMember 5 = .ok (.if_icmp .eq 7, 3) := by decide +kernel
theorem dX1_isMember_8 : decode cX1_isMember 8 = .ok (.iconst 1, 1) := by decide +kernel
theorem dX1_isMember_9 : decode cX1_isMember 9 = .ok (.goto 4, 3) := by decide +kernel
theorem dX1_isMember_12 : decode cX1_isMember 12 = .ok (.iconst 0, 1) := by decide +kernel
theorem dX1_isMember_13 : decode cX1_isMember 13 = .ok (.ireturn, 1) := by decide +kernel
theorem dX2_init_0 : decode cX2_init 0 = .ok (.aload_n 0, 1) := by decide +kernel
theorem dX2_init_1 : decode cX2_init 1 = .ok (.invokespecial 3, 3) := by decide +kernel
theorem dX2_init_4 : decode cX2_init 4 = .ok (.aload_n 0, 1) := by decide +kernel
theorem dX2_init_5 : decode cX2_init 5 = .ok (.bipush 21, 2) := by decide +kernel
theorem dX2_init_7 : decode cX2_init 7 = .ok (.anewarray 9, 3) := by decide +kernel
theorem dX2_init_10 : decode cX2_init 10 = .ok (.putfield 11, 3) := by decide +kernel
theorem dX2_init_13 : decode cX2_init 13 = .ok (.aload_n 0, 1) := by decide +kernel
theorem dX2_init_14 : decode cX2_init 14 = .ok (.iconst 0, 1) := by decide +kernel
theorem dX2_init_15 : decode cX2_init 15 = .ok (.putfield 17, 3) := by decide +kernel
theorem dX2_init_18 : decode cX2_init 18 = .ok (.iconst 0, 1) := by decide +kernel
theorem dX2_init_19 : decode cX2_init 19 = .ok (.istore_n 1, 1) := by decide +kernel
theorem dX2_init_20 : decode cX2_init 20 = .ok (.iload_n 1, 1) := by decide +kernel
theorem dX2_init_21 : decode cX2_init 21 = .ok (.bipush 20, 2) := by decide +kernel
theorem dX2_init_23 : decode cX2_init 23 = .ok (.if_icmp .gt 22, 3) := by decide +kernel
theorem dX2_init_26 : decode cX2_init 26 = .ok (.aload_n 0, 1) := by decide +kernel
theorem dX2_init_27 : decode cX2_init 27 = .ok (.getfield 11, 3) := by decide +kernel
theorem dX2_init_30 : decode cX2_init 30 = .ok (.iload_n 1, 1) := by decide +kernel
theorem dX2_init_31 : decode cX2_init 31 = .ok (.new 9, 3) := by decide +kernel
theorem dX2_init_34 : decode cX2_init 34 = .ok (.dup, 1) := by decide +kernel
theorem dX2_init_35 : decode cX2_init 35 = .ok (.invokespecial 21, 3) := by decide +kernel
theorem dX2_init_38 : decode cX2_init 38 = .ok (.aastore, 1) := by decide +kernel
theorem dX2_init_39 : decode cX2_init 39 = .ok (.iinc 1 1, 3) := by decide +kernel
theorem dX2_init_42 : decode cX2_init 42 = .ok (.goto (-22), 3) := by decide +kernel
theorem dX2_init_45 : decode cX2_init 45 = .ok (.return_, 1) := by decide +kernel
theorem dX2_isFull_0 : decode cX2_isFull 0 = .ok (.aload_n 0, 1) := by decide +kernel
theorem dX2_isFull_1 : decode cX2_isFull 1 = .ok (.getfield 17, 3) := by decide +kernel
theorem dX2_isFull_4 : decode cX2_isFull 4 = .ok (.bipush 20, 2) := by decide +kernel
theorem dX2_isFull_6 : decode cX2_isFull 6 = .ok (.if_icmp .lt 7, 3) := by decide +kernel
theorem dX2_isFull_9 : decode cX2_isFull 9 = .ok (.iconst 1, 1) := by decide +kernel
theorem dX2_isFull_10 : decode cX2_isFull 10 = .ok (.goto 4, 3) := by decide +kernel
theorem dX2_isFull_13 : decode cX2_isFull 13 = .ok (.iconst 0, 1) := by decide +kernel
theorem dX2_isFull_14 : decode cX2_isFull 14 = .ok (.ireturn, 1) := by decide +kernel
theorem dX2_at_0 : decode cX2_at 0 = .ok (.iload_n 1, 1) := by decide +kernel
theorem dX2_at_1 : decode cX2_at 1 = .ok (.ifCond .lt 20, 3) := by decide +kernel
theorem dX2_at_4 : decode cX2_at 4 = .ok (.iload_n 1, 1) := by decide +kernel
theorem dX2_at_5 : decode cX2_at 5 = .ok (.aload_n 0, 1) := by decide +kernel
theorem dX2_at_6 : decode cX2_at 6 = .ok (.getfield 17, 3) := by decide +kernel
theorem dX2_at_9 : decode cX2_at 9 = .ok (.if_icmp .ge 12, 3) := by decide +kernel
theorem dX2_at_12 : decode cX2_at 12 = .ok (.aload_n 0, 1) := by decide +kernel
theorem dX2_at_13 : decode cX2_at 13 = .ok (.getfield 11, 3) := by decide +kernel
theorem dX2_at_16 : decode cX2_at 16 = .ok (.iload_n 1, 1) := by decide +kernel
theorem dX2_at_17 : decode cX2_at 17 = .ok (.aaload, 1) := by decide +kernel
theorem dX2_at_18 : decode cX2_at 18 = .ok (.goto 4, 3) := by decide +kernel
theorem dX2_at_21 : decode cX2_at 21 = .ok (.aconst_null, 1) := by decide +kernel
theorem dX2_at_22 : decode cX2_at 22 = .ok (.areturn, 1) := by decide +kernel
theorem dX2_takeOut_0 : decode cX2_takeOut 0 = .ok (.aload_n 0, 1) := by decide +kernel
theorem dX2_takeOut_1 : decode cX2_takeOut 1 = .ok (.iload_n 1, 1) := by decide +kernel
theorem dX2_takeOut_2 : decode cX2_takeOut 2 = .ok (.invokevirtual 22, 3) := by decide +kernel
theorem dX2_takeOut_5 : decode cX2_takeOut 5 = .ok (.astore_n 2, 1) := by decide +kernel
theorem dX2_takeOut_6 : decode cX2_takeOut 6 = .ok (.aload_n 2, 1) := by decide +kernel
theorem dX2_takeOut_7 : decode cX2_takeOut 7 = .ok (.ifnonnull 5, 3) := by decide +kernel
theorem dX2_takeOut_10 : decode cX2_takeOut 10 = .ok (.aconst_null, 1) := by decide +kernel
theorem dX2_takeOut_11 : decode cX2_takeOut 11 = .ok (.areturn, 1) := by decide +kernel
theorem dX2_takeOut_12 : decode cX2_takeOut 12 = .ok (.iload_n 1, 1) := by decide +kernel
theorem dX2_takeOut_13 : decode cX2_takeOut 13 = .ok (.istore_n 3, 1) := by decide +kernel
theorem dX2_takeOut_14 : decode cX2_takeOut 14 = .ok (.iload_n 3, 1) := by decide +kernel
theorem dX2_takeOut_15 : decode cX2_takeOut 15 = .ok (.bipush 20, 2) := by decide +kernel
theorem dX2_takeOut_17 : decode cX2_takeOut 17 = .ok (.if_icmp .ge 23, 3) := by decide +kernel
theorem dX2_takeOut_20 : decode cX2_takeOut 20 = .ok (.aload_n 0, 1) := by decide +kernel
theorem dX2_takeOut_21 : decode cX2_takeOut 21 = .ok (.getfield 11, 3) := by decide +kernel
theorem dX2_takeOut_24 : decode cX2_takeOut 24 = .ok (.iload_n 3, 1) := by decide +kernel
theorem dX2_takeOut_25 : decode cX2_takeOut 25 = .ok (.aload_n 0, 1) := by decide +kernel
theorem dX2_takeOut_26 : decode cX2_takeOut 26 = .ok (.getfield 11, 3) := by decide +kernel
theorem dX2_takeOut_29 : decode cX2_takeOut 29 = .ok (.iload_n 3, 1) := by decide +kernel
theorem dX2_takeOut_30 : decode cX2_takeOut 30 = .ok (.iconst 1, 1) := by decide +kernel
theorem dX2_takeOut_31 : decode cX2_takeOut 31 = .ok (.iadd, 1) := by decide +kernel
theorem dX2_takeOut_32 : decode cX2_takeOut 32 = .ok (.aaload, 1) := by decide +kernel
theorem dX2_takeOut_33 : decode cX2_takeOut 33 = .ok (.aastore, 1) := by decide +kernel
theorem dX2_takeOut_34 : decode cX2_takeOut 34 = .ok (.iinc 3 1, 3) := by decide +kernel
theorem dX2_takeOut_37 : decode cX2_takeOut 37 = .ok (.goto (-23), 3) := by decide +kernel
theorem dX2_takeOut_40 : decode cX2_takeOut 40 = .ok (.aload_n 0, 1) := by decide +kernel
theorem dX2_takeOut_41 : decode cX2_takeOut 41 = .ok (.getfield 11, 3) := by decide +kernel
theorem dX2_takeOut_44 : decode cX2_takeOut 44 = .ok (.bipush 20, 2) := by decide +kernel
theorem dX2_takeOut_46 : decode cX2_takeOut 46 = .ok (.aload_n 2, 1) := by decide +kernel
theorem dX2_takeOut_47 : decode cX2_takeOut 47 = .ok (.aastore, 1) := by decide +kernel
theorem dX2_takeOut_48 : decode cX2_takeOut 48 = .ok (.aload_n 0, 1) := by decide +kernel
theorem dX2_takeOut_49 : decode cX2_takeOut 49 = .ok (.dup, 1) := by decide +kernel
theorem dX2_takeOut_50 : decode cX2_takeOut 50 = .ok (.getfield 17, 3) := by decide +kernel
theorem dX2_takeOut_53 : decode cX2_takeOut 53 = .ok (.iconst 1, 1) := by decide +kernel
theorem dX2_takeOut_54 : decode cX2_takeOut 54 = .ok (.isub, 1) := by decide +kernel
theorem dX2_takeOut_55 : decode cX2_takeOut 55 = .ok (.putfield 17, 3) := by decide +kernel
theorem dX2_takeOut_58 : decode cX2_takeOut 58 = .ok (.aload_n 2, 1) := by decide +kernel
theorem dX2_takeOut_59 : decode cX2_takeOut 59 = .ok (.areturn, 1) := by decide +kernel
theorem dX2_send_0 : decode cX2_send 0 = .ok (.aload_n 0, 1) := by decide +kernel
theorem dX2_send_1 : decode cX2_send 1 = .ok (.getfield 11, 3) := by decide +kernel
theorem dX2_send_4 : decode cX2_send 4 = .ok (.aload_n 0, 1) := by decide +kernel
theorem dX2_send_5 : decode cX2_send 5 = .ok (.getfield 17, 3) := by decide +kernel
theorem dX2_send_8 : decode cX2_send 8 = .ok (.aaload, 1) := by decide +kernel
theorem dX2_send_9 : decode cX2_send 9 = .ok (.astore_n 3, 1) := by decide +kernel
theorem dX2_send_10 : decode cX2_send 10 = .ok (.aload_n 0, 1) := by decide +kernel
theorem dX2_send_11 : decode cX2_send 11 = .ok (.getfield 17, 3) := by decide +kernel
theorem dX2_send_14 : decode cX2_send 14 = .ok (.bipush 20, 2) := by decide +kernel
theorem dX2_send_16 : decode cX2_send 16 = .ok (.if_icmp .ge 13, 3) := by decide +kernel
theorem dX2_send_19 : decode cX2_send 19 = .ok (.aload_n 0, 1) := by decide +kernel
theorem dX2_send_20 : decode cX2_send 20 = .ok (.dup, 1) := by decide +kernel
theorem dX2_send_21 : decode cX2_send 21 = .ok (.getfield 17, 3) := by decide +kernel
theorem dX2_send_24 : decode cX2_send 24 = .ok (.iconst 1, 1) := by decide +kernel
theorem dX2_send_25 : decode cX2_send 25 = .ok (.iadd, 1) := by decide +kernel
theorem dX2_send_26 : decode cX2_send 26 = .ok (.putfield 17, 3) := by decide +kernel
theorem dX2_send_29 : decode cX2_send 29 = .ok (.aload_n 3, 1) := by decide +kernel
theorem dX2_send_30 : decode cX2_send 30 = .ok (.iload_n 1, 1) := by decide +kernel
theorem dX2_send_31 : decode cX2_send 31 = .ok (.putfield 26, 3) := by decide +kernel
theorem dX2_send_34 : decode cX2_send 34 = .ok (.aload_n 3, 1) := by decide +kernel
theorem dX2_send_35 : decode cX2_send 35 = .ok (.iload_n 2, 1) := by decide +kernel
theorem dX2_send_36 : decode cX2_send 36 = .ok (.putfield 29, 3) := by decide +kernel
theorem dX2_send_39 : decode cX2_send 39 = .ok (.aload_n 3, 1) := by decide +kernel
theorem dX2_send_40 : decode cX2_send 40 = .ok (.iconst (-1), 1) := by decide +kernel
theorem dX2_send_41 : decode cX2_send 41 = .ok (.putfield 32, 3) := by decide +kernel
theorem dX2_send_44 : decode cX2_send 44 = .ok (.aload_n 3, 1) := by decide +kernel
theorem dX2_send_45 : decode cX2_send 45 = .ok (.iconst 0, 1) := by decide +kernel
theorem dX2_send_46 : decode cX2_send 46 = .ok (.putfield 35, 3) := by decide +kernel
theorem dX2_send_49 : decode cX2_send 49 = .ok (.aload_n 3, 1) := by decide +kernel
theorem dX2_send_50 : decode cX2_send 50 = .ok (.iconst (-1), 1) := by decide +kernel
theorem dX2_send_51 : decode cX2_send 51 = .ok (.putfield 38, 3) := by decide +kernel
theorem dX2_send_54 : decode cX2_send 54 = .ok (.aload_n 3, 1) := by decide +kernel
theorem dX2_send_55 : decode cX2_send 55 = .ok (.iconst (-1), 1) := by decide +kernel
theorem dX2_send_56 : decode cX2_send 56 = .ok (.putfield 41, 3) := by decide +kernel
theorem dX2_send_59 : decode cX2_send 59 = .ok (.aload_n 3, 1) := by decide +kernel
theorem dX2_send_60 : decode cX2_send 60 = .ok (.iconst (-1), 1) := by decide +kernel
theorem dX2_send_61 : decode cX2_send 61 = .ok (.putfield 44, 3) := by decide +kernel
theorem dX2_send_64 : decode cX2_send 64 = .ok (.aload_n 3, 1) := by decide +kernel
theorem dX2_send_65 : decode cX2_send 65 = .ok (.iconst 0, 1) := by decide +kernel
theorem dX2_send_66 : decode cX2_send 66 = .ok (.putfield 47, 3) := by decide +kernel
theorem dX2_send_69 : decode cX2_send 69 = .ok (.aload_n 3, 1) := by decide +kernel
theorem dX2_send_70 : decode cX2_send 70 = .ok (.lconst 0, 1) := by decide +kernel
theorem dX2_send_71 : decode cX2_send 71 = .ok (.putfield 50, 3) := by decide +kernel
theorem dX2_send_74 : decode cX2_send 74 = .ok (.aload_n 3, 1) := by decide +kernel
theorem dX2_send_75 : decode cX2_send 75 = .ok (.areturn, 1) := by decide +kernel
theorem dX3_init_0 : decode cX3_init 0 = .ok (.aload_n 0, 1) := by decide +kernel
theorem dX3_init_1 : decode cX3_init 1 = .ok (.invokespecial 1, 3) := by decide +kernel
theorem dX3_init_4 : decode cX3_init 4 = .ok (.aload_n 0, 1) := by decide +kernel
theorem dX3_init_5 : decode cX3_init 5 = .ok (.bipush 12, 2) := by decide +kernel
theorem dX3_init_7 : decode cX3_init 7 = .ok (.anewarray 9, 3) := by decide +kernel
theorem dX3_init_10 : decode cX3_init 10 = .ok (.putfield 11, 3) := by decide +kernel
theorem dX3_init_13 : decode cX3_init 13 = .ok (.aload_n 0, 1) := by decide +kernel
theorem dX3_init_14 : decode cX3_init 14 = .ok (.iconst 0, 1) := by decide +kernel
theorem dX3_init_15 : decode cX3_init 15 = .ok (.putfield 15, 3) := by decide +kernel
theorem dX3_init_18 : decode cX3_init 18 = .ok (.aload_n 0, 1) := by decide +kernel
theorem dX3_init_19 : decode cX3_init 19 = .ok (.bipush 10, 2) := by decide +kernel
theorem dX3_init_21 : decode cX3_init 21 = .ok (.newarray .int, 2) := by decide +kernel
theorem dX3_init_23 : decode cX3_init 23 = .ok (.putfield 19, 3) := by decide +kernel
theorem dX3_init_26 : decode cX3_init 26 = .ok (.aload_n 0, 1) := by decide +kernel
theorem dX3_init_27 : decode cX3_init 27 = .ok (.iconst 0, 1) := by decide +kernel
theorem dX3_init_28 : decode cX3_init 28 = .ok (.putfield 23, 3) := by decide +kernel
theorem dX3_init_31 : decode cX3_init 31 = .ok (.aload_n 0, 1) := by decide +kernel
theorem dX3_init_32 : decode cX3_init 32 = .ok (.new 26, 3) := by decide +kernel
theorem dX3_init_35 : decode cX3_init 35 = .ok (.dup, 1) := by decide +kernel
theorem dX3_init_36 : decode cX3_init 36 = .ok (.invokespecial 28, 3) := by decide +kernel
theorem dX3_init_39 : decode cX3_init 39 = .ok (.putfield 29, 3) := by decide +kernel
theorem dX3_init_42 : decode cX3_init 42 = .ok (.return_, 1) := by decide +kernel
theorem dX3_create_0 : decode cX3_create 0 = .ok (.iload_n 1, 1) := by decide +kernel
theorem dX3_create_1 : decode cX3_create 1 = .ok (.invokestatic 33, 3) := by decide +kernel
theorem dX3_create_4 : decode cX3_create 4 = .ok (.ifCond .eq 10, 3) := by decide +kernel
theorem dX3_create_7 : decode cX3_create 7 = .ok (.aload_n 0, 1) := by decide +kernel
theorem dX3_create_8 : decode cX3_create 8 = .ok (.getfield 15, 3) := by decide +kernel
theorem dX3_create_11 : decode cX3_create 11 = .ok (.ifCond .le 5, 3) := by decide +kernel
theorem dX3_create_14 : decode cX3_create 14 = .ok (.iconst 0, 1) := by decide +kernel
theorem dX3_create_15 : decode cX3_create 15 = .ok (.ireturn, 1) := by decide +kernel
theorem dX3_create_16 : decode cX3_create 16 = .ok (.aload_n 0, 1) := by decide +kernel
theorem dX3_create_17 : decode cX3_create 17 = .ok (.iload_n 1, 1) := by decide +kernel
theorem dX3_create_18 : decode cX3_create 18 = .ok (.invokevirtual 37, 3) := by decide +kernel
theorem dX3_create_21 : decode cX3_create 21 = .ok (.astore_n 2, 1) := by decide +kernel
theorem dX3_create_22 : decode cX3_create 22 = .ok (.aload_n 2, 1) := by decide +kernel
theorem dX3_create_23 : decode cX3_create 23 = .ok (.iload_n 1, 1) := by decide +kernel
theorem dX3_create_24 : decode cX3_create 24 = .ok (.putfield 41, 3) := by decide +kernel
theorem dX3_create_27 : decode cX3_create 27 = .ok (.iconst 1, 1) := by decide +kernel
theorem dX3_create_28 : decode cX3_create 28 = .ok (.ireturn, 1) := by decide +kernel
theorem dX3_join_0 : decode cX3_join 0 = .ok (.iload_n 1, 1) := by decide +kernel
theorem dX3_join_1 : decode cX3_join 1 = .ok (.invokestatic 33, 3) := by decide +kernel
theorem dX3_join_4 : decode cX3_join 4 = .ok (.ifCond .eq 19, 3) := by decide +kernel
theorem dX3_join_7 : decode cX3_join 7 = .ok (.aload_n 0, 1) := by decide +kernel
theorem dX3_join_8 : decode cX3_join 8 = .ok (.iload_n 1, 1) := by decide +kernel
theorem dX3_join_9 : decode cX3_join 9 = .ok (.invokevirtual 44, 3) := by decide +kernel
theorem dX3_join_12 : decode cX3_join 12 = .ok (.ifnonnull 11, 3) := by decide +kernel
theorem dX3_join_15 : decode cX3_join 15 = .ok (.aload_n 0, 1) := by decide +kernel
theorem dX3_join_16 : decode cX3_join 16 = .ok (.iload_n 2, 1) := by decide +kernel
theorem dX3_join_17 : decode cX3_join 17 = .ok (.invokevirtual 47, 3) := by decide +kernel
theorem dX3_join_20 : decode cX3_join 20 = .ok (.ifnonnull 5, 3) := by decide +kernel
theorem dX3_join_23 : decode cX3_join 23 = .ok (.iconst 0, 1) := by decide +kernel
theorem dX3_join_24 : decode cX3_join 24 = .ok (.ireturn, 1) := by decide +kernel
theorem dX3_join_25 : decode cX3_join 25 = .ok (.aload_n 0, 1) := by decide +kernel
theorem dX3_join_26 : decode cX3_join 26 = .ok (.getfield 15, 3) := by decide +kernel
theorem dX3_join_29 : decode cX3_join 29 = .ok (.bipush 12, 2) := by decide +kernel
theorem dX3_join_31 : decode cX3_join 31 = .ok (.if_icmp .ge 13, 3) := by decide +kernel
theorem dX3_join_34 : decode cX3_join 34 = .ok (.aload_n 0, 1) := by decide +kernel
theorem dX3_join_35 : decode cX3_join 35 = .ok (.getfield 29, 3) := by decide +kernel
theorem dX3_join_38 : decode cX3_join 38 = .ok (.invokevirtual 50, 3) := by decide +kernel
theorem dX3_join_41 : decode cX3_join 41 = .ok (.ifCond .eq 5, 3) := by decide +kernel
theorem dX3_join_44 : decode cX3_join 44 = .ok (.iconst 0, 1) := by decide +kernel
theorem dX3_join_45 : decode cX3_join 45 = .ok (.ireturn, 1) := by decide +kernel
theorem dX3_join_46 : decode cX3_join 46 = .ok (.aload_n 0, 1) := by decide +kernel
theorem dX3_join_47 : decode cX3_join 47 = .ok (.iload_n 1, 1) := by decide +kernel
theorem dX3_join_48 : decode cX3_join 48 = .ok (.invokevirtual 37, 3) := by decide +kernel
theorem dX3_join_51 : decode cX3_join 51 = .ok (.pop, 1) := by decide +kernel
theorem dX3_join_52 : decode cX3_join 52 = .ok (.aload_n 0, 1) := by decide +kernel
theorem dX3_join_53 : decode cX3_join 53 = .ok (.iload_n 2, 1) := by decide +kernel
theorem dX3_join_54 : decode cX3_join 54 = .ok (.iload_n 1, 1) := by decide +kernel
theorem dX3_join_55 : decode cX3_join 55 = .ok (.iconst 1, 1) := by decide +kernel
theorem dX3_join_56 : decode cX3_join 56 = .ok (.iload_n 1, 1) := by decide +kernel
theorem dX3_join_57 : decode cX3_join 57 = .ok (.invokevirtual 54, 3) := by decide +kernel
theorem dX3_join_60 : decode cX3_join 60 = .ok (.pop, 1) := by decide +kernel
theorem dX3_join_61 : decode cX3_join 61 = .ok (.iconst 1, 1) := by decide +kernel
theorem dX3_join_62 : decode cX3_join 62 = .ok (.ireturn, 1) := by decide +kernel
theorem dX3_stabilise_0 : decode cX3_stabilise 0 = .ok (.aload_n 0, 1) := by decide +kernel
theorem dX3_stabilise_1 : decode cX3_stabilise 1 = .ok (.iload_n 1, 1) := by decide +kernel
theorem dX3_stabilise_2 : decode cX3_stabilise 2 = .ok (.invokevirtual 47, 3) := by decide +kernel
theorem dX3_stabilise_5 : decode cX3_stabilise 5 = .ok (.astore_n 2, 1) := by decide +kernel
theorem dX3_stabilise_6 : decode cX3_stabilise 6 = .ok (.aload_n 2, 1) := by decide +kernel
theorem dX3_stabilise_7 : decode cX3_stabilise 7 = .ok (.ifnull 13, 3) := by decide +kernel
theorem dX3_stabilise_10 : decode cX3_stabilise 10 = .ok (.aload_n 0, 1) := by decide +kernel
theorem dX3_stabilise_11 : decode cX3_stabilise 11 = .ok (.getfield 29, 3) := by decide +kernel
theorem dX3_stabilise_14 : decode cX3_stabilise 14 = .ok (.invokevirtual 50, 3) := by decide +kernel
theorem dX3_stabilise_17 : decode cX3_stabilise 17 = .ok (.ifCond .eq 5, 3) := by decide +kernel
theorem dX3_stabilise_20 : decode cX3_stabilise 20 = .ok (.iconst 0, 1) := by decide +kernel
theorem dX3_stabilise_21 : decode cX3_stabilise 21 = .ok (.ireturn, 1) := by decide +kernel
theorem dX3_stabilise_22 : decode cX3_stabilise 22 = .ok (.aload_n 0, 1) := by decide +kernel
theorem dX3_stabilise_23 : decode cX3_stabilise 23 = .ok (.getfield 29, 3) := by decide +kernel
theorem dX3_stabilise_26 : decode cX3_stabilise 26 = .ok (.bipush 6, 2) := by decide +kernel
theorem dX3_stabilise_28 : decode cX3_stabilise 28 = .ok (.aload_n 2, 1) := by decide +kernel
theorem dX3_stabilise_29 : decode cX3_stabilise 29 = .ok (.getfield 41, 3) := by decide +kernel
theorem dX3_stabilise_32 : decode cX3_stabilise 32 = .ok (.invokevirtual 58, 3) := by decide +kernel
theorem dX3_stabilise_35 : decode cX3_stabilise 35 = .ok (.astore_n 3, 1) := by decide +kernel
theorem dX3_stabilise_36 : decode cX3_stabilise 36 = .ok (.aload_n 3, 1) := by decide +kernel
theorem dX3_stabilise_37 : decode cX3_stabilise 37 = .ok (.iload_n 1, 1) := by decide +kernel
theorem dX3_stabilise_38 : decode cX3_stabilise 38 = .ok (.putfield 62, 3) := by decide +kernel
theorem dX3_stabilise_41 : decode cX3_stabilise 41 = .ok (.iconst 1, 1) := by decide +kernel
theorem dX3_stabilise_42 : decode cX3_stabilise 42 = .ok (.ireturn, 1) := by decide +kernel
theorem dX3_fix_0 : decode cX3_fix 0 = .ok (.aload_n 0, 1) := by decide +kernel
theorem dX3_fix_1 : decode cX3_fix 1 = .ok (.iload_n 1, 1) := by decide +kernel
theorem dX3_fix_2 : decode cX3_fix 2 = .ok (.invokevirtual 47, 3) := by decide +kernel
theorem dX3_fix_5 : decode cX3_fix 5 = .ok (.ifnull 20, 3) := by decide +kernel
theorem dX3_fix_8 : decode cX3_fix 8 = .ok (.iload_n 2, 1) := by decide +kernel
theorem dX3_fix_9 : decode cX3_fix 9 = .ok (.invokestatic 67, 3) := by decide +kernel
theorem dX3_fix_12 : decode cX3_fix 12 = .ok (.ifCond .eq 13, 3) := by decide +kernel
theorem dX3_fix_15 : decode cX3_fix 15 = .ok (.aload_n 0, 1) := by decide +kernel
theorem dX3_fix_16 : decode cX3_fix 16 = .ok (.getfield 29, 3) := by decide +kernel
theorem dX3_fix_19 : decode cX3_fix 19 = .ok (.invokevirtual 50, 3) := by decide +kernel
theorem dX3_fix_22 : decode cX3_fix 22 = .ok (.ifCond .eq 5, 3) := by decide +kernel
theorem dX3_fix_25 : decode cX3_fix 25 = .ok (.iconst 0, 1) := by decide +kernel
theorem dX3_fix_26 : decode cX3_fix 26 = .ok (.ireturn, 1) := by decide +kernel
theorem dX3_fix_27 : decode cX3_fix 27 = .ok (.aload_n 0, 1) := by decide +kernel
theorem dX3_fix_28 : decode cX3_fix 28 = .ok (.iload_n 1, 1) := by decide +kernel
theorem dX3_fix_29 : decode cX3_fix 29 = .ok (.iload_n 1, 1) := by decide +kernel
theorem dX3_fix_30 : decode cX3_fix 30 = .ok (.iconst 2, 1) := by decide +kernel
theorem dX3_fix_31 : decode cX3_fix 31 = .ok (.iload_n 1, 1) := by decide +kernel
theorem dX3_fix_32 : decode cX3_fix 32 = .ok (.iload_n 2, 1) := by decide +kernel
theorem dX3_fix_33 : decode cX3_fix 33 = .ok (.invokestatic 70, 3) := by decide +kernel
theorem dX3_fix_36 : decode cX3_fix 36 = .ok (.invokevirtual 54, 3) := by decide +kernel
theorem dX3_fix_39 : decode cX3_fix 39 = .ok (.astore_n 3, 1) := by decide +kernel
theorem dX3_fix_40 : decode cX3_fix 40 = .ok (.aload_n 3, 1) := by decide +kernel
theorem dX3_fix_41 : decode cX3_fix 41 = .ok (.iload_n 2, 1) := by decide +kernel
theorem dX3_fix_42 : decode cX3_fix 42 = .ok (.putfield 74, 3) := by decide +kernel
theorem dX3_fix_45 : decode cX3_fix 45 = .ok (.iconst 1, 1) := by decide +kernel
theorem dX3_fix_46 : decode cX3_fix 46 = .ok (.ireturn, 1) := by decide +kernel
theorem dX3_put_0 : decode cX3_put 0 = .ok (.aload_n 0, 1) := by decide +kernel
theorem dX3_put_1 : decode cX3_put 1 = .ok (.iload_n 1, 1) := by decide +kernel
theorem dX3_put_2 : decode cX3_put 2 = .ok (.invokevirtual 47, 3) := by decide +kernel
theorem dX3_put_5 : decode cX3_put 5 = .ok (.ifnull 28, 3) := by decide +kernel
theorem dX3_put_8 : decode cX3_put 8 = .ok (.iload_n 2, 1) := by decide +kernel
theorem dX3_put_9 : decode cX3_put 9 = .ok (.invokestatic 33, 3) := by decide +kernel
theorem dX3_put_12 : decode cX3_put 12 = .ok (.ifCond .eq 21, 3) := by decide +kernel
theorem dX3_put_15 : decode cX3_put 15 = .ok (.aload_n 0, 1) := by decide +kernel
theorem dX3_put_16 : decode cX3_put 16 = .ok (.getfield 29, 3) := by decide +kernel
theorem dX3_put_19 : decode cX3_put 19 = .ok (.invokevirtual 50, 3) := by decide +kernel
theorem dX3_put_22 : decode cX3_put 22 = .ok (.ifCond .ne 11, 3) := by decide +kernel
theorem dX3_put_25 : decode cX3_put 25 = .ok (.aload_n 0, 1) := by decide +kernel
theorem dX3_put_26 : decode cX3_put 26 = .ok (.iload_n 2, 1) := by decide +kernel
theorem dX3_put_27 : decode cX3_put 27 = .ok (.invokevirtual 77, 3) := by decide +kernel
theorem dX3_put_30 : decode cX3_put 30 = .ok (.ifCond .ne 5, 3) := by decide +kernel
theorem dX3_put_33 : decode cX3_put 33 = .ok (.iconst 0, 1) := by decide +kernel
theorem dX3_put_34 : decode cX3_put 34 = .ok (.ireturn, 1) := by decide +kernel
theorem dX3_put_35 : decode cX3_put 35 = .ok (.aload_n 0, 1) := by decide +kernel
theorem dX3_put_36 : decode cX3_put 36 = .ok (.iload_n 1, 1) := by decide +kernel
theorem dX3_put_37 : decode cX3_put 37 = .ok (.iload_n 1, 1) := by decide +kernel
theorem dX3_put_38 : decode cX3_put 38 = .ok (.iconst 3, 1) := by decide +kernel
theorem dX3_put_39 : decode cX3_put 39 = .ok (.iload_n 2, 1) := by decide +kernel
theorem dX3_put_40 : decode cX3_put 40 = .ok (.invokevirtual 54, 3) := by decide +kernel
theorem dX3_put_43 : decode cX3_put 43 = .ok (.astore 4, 2) := by decide +kernel
theorem dX3_put_45 : decode cX3_put 45 = .ok (.aload 4, 2) := by decide +kernel
theorem dX3_put_47 : decode cX3_put 47 = .ok (.iload_n 3, 1) := by decide +kernel
theorem dX3_put_48 : decode cX3_put 48 = .ok (.i2l, 1) := by decide +kernel
theorem dX3_put_49 : decode cX3_put 49 = .ok (.putfield 80, 3) := by decide +kernel
theorem dX3_put_52 : decode cX3_put 52 = .ok (.iconst 1, 1) := by decide +kernel
theorem dX3_put_53 : decode cX3_put 53 = .ok (.ireturn, 1) := by decide +kernel
theorem dX3_get_0 : decode cX3_get 0 = .ok (.aload_n 0, 1) := by decide +kernel
theorem dX3_get_1 : decode cX3_get 1 = .ok (.iload_n 1, 1) := by decide +kernel
theorem dX3_get_2 : decode cX3_get 2 = .ok (.invokevirtual 47, 3) := by decide +kernel
theorem dX3_get_5 : decode cX3_get 5 = .ok (.ifnull 20, 3) := by decide +kernel
theorem dX3_get_8 : decode cX3_get 8 = .ok (.iload_n 2, 1) := by decide +kernel
theorem dX3_get_9 : decode cX3_get 9 = .ok (.invokestatic 33, 3) := by decide +kernel
theorem dX3_get_12 : decode cX3_get 12 = .ok (.ifCond .eq 13, 3) := by decide +kernel
theorem dX3_get_15 : decode cX3_get 15 = .ok (.aload_n 0, 1) := by decide +kernel
theorem dX3_get_16 : decode cX3_get 16 = .ok (.getfield 29, 3) := by decide +kernel
theorem dX3_get_19 : decode cX3_get 19 = .ok (.invokevirtual 50, 3) := by decide +kernel
theorem dX3_get_22 : decode cX3_get 22 = .ok (.ifCond .eq 5, 3) := by decide +kernel
theorem dX3_get_25 : decode cX3_get 25 = .ok (.iconst 0, 1) := by decide +kernel
theorem dX3_get_26 : decode cX3_get 26 = .ok (.ireturn, 1) := by decide +kernel
theorem dX3_get_27 : decode cX3_get 27 = .ok (.aload_n 0, 1) := by decide +kernel
theorem dX3_get_28 : decode cX3_get 28 = .ok (.iload_n 1, 1) := by decide +kernel
theorem dX3_get_29 : decode cX3_get 29 = .ok (.iload_n 1, 1) := by decide +kernel
theorem dX3_get_30 : decode cX3_get 30 = .ok (.iconst 4, 1) := by decide +kernel
theorem dX3_get_31 : decode cX3_get 31 = .ok (.iload_n 2, 1) := by decide +kernel
theorem dX3_get_32 : decode cX3_get 32 = .ok (.invokevirtual 54, 3) := by decide +kernel
theorem dX3_get_35 : decode cX3_get 35 = .ok (.pop, 1) := by decide +kernel
theorem dX3_get_36 : decode cX3_get 36 = .ok (.iconst 1, 1) := by decide +kernel
theorem dX3_get_37 : decode cX3_get 37 = .ok (.ireturn, 1) := by decide +kernel
theorem dX3_deliver_0 : decode cX3_deliver 0 = .ok (.aload_n 0, 1) := by decide +kernel
theorem dX3_deliver_1 : decode cX3_deliver 1 = .ok (.iload_n 1, 1) := by decide +kernel
theorem dX3_deliver_2 : decode cX3_deliver 2 = .ok (.invokevirtual 84, 3) := by decide +kernel
theorem dX3_deliver_5 : decode cX3_deliver 5 = .ok (.ireturn, 1) := by decide +kernel
theorem dX3_pump_0 : decode cX3_pump 0 = .ok (.iload_n 1, 1) := by decide +kernel
theorem dX3_pump_1 : decode cX3_pump 1 = .ok (.iconst 1, 1) := by decide +kernel
theorem dX3_pump_2 : decode cX3_pump 2 = .ok (.if_icmp .lt 9, 3) := by decide +kernel
theorem dX3_pump_5 : decode cX3_pump 5 = .ok (.iload_n 1, 1) := by decide +kernel
theorem dX3_pump_6 : decode cX3_pump 6 = .ok (.bipush 8, 2) := by decide +kernel
theorem dX3_pump_8 : decode cX3_pump 8 = .ok (.if_icmp .le 5, 3) := by decide +kernel
theorem dX3_pump_11 : decode cX3_pump 11 = .ok (.iconst (-1), 1) := by decide +kernel
theorem dX3_pump_12 : decode cX3_pump 12 = .ok (.ireturn, 1) := by decide +kernel
theorem dX3_pump_13 : decode cX3_pump 13 = .ok (.iconst 0, 1) := by decide +kernel
theorem dX3_pump_14 : decode cX3_pump 14 = .ok (.istore_n 2, 1) := by decide +kernel
theorem dX3_pump_15 : decode cX3_pump 15 = .ok (.iload_n 2, 1) := by decide +kernel
theorem dX3_pump_16 : decode cX3_pump 16 = .ok (.iload_n 1, 1) := by decide +kernel
theorem dX3_pump_17 : decode cX3_pump 17 = .ok (.if_icmp .ge 18, 3) := by decide +kernel
theorem dX3_pump_20 : decode cX3_pump 20 = .ok (.aload_n 0, 1) := by decide +kernel
theorem dX3_pump_21 : decode cX3_pump 21 = .ok (.iconst 0, 1) := by decide +kernel
theorem dX3_pump_22 : decode cX3_pump 22 = .ok (.invokevirtual 84, 3) := by decide +kernel
theorem dX3_pump_25 : decode cX3_pump 25 = .ok (.iconst (-1), 1) := by decide +kernel
theorem dX3_pump_26 : decode cX3_pump 26 = .ok (.if_icmp .eq 9, 3) := by decide +kernel
theorem dX3_pump_29 : decode cX3_pump 29 = .ok (.iinc 2 1, 3) := by decide +kernel
theorem dX3_pump_32 : decode cX3_pump 32 = .ok (.goto (-17), 3) := by decide +kernel
theorem dX3_pump_35 : decode cX3_pump 35 = .ok (.iload_n 2, 1) := by decide +kernel
theorem dX3_pump_36 : decode cX3_pump 36 = .ok (.ireturn, 1) := by decide +kernel
theorem dX3_flying_0 : decode cX3_flying 0 = .ok (.aload_n 0, 1) := by decide +kernel
theorem dX3_flying_1 : decode cX3_flying 1 = .ok (.getfield 29, 3) := by decide +kernel
theorem dX3_flying_4 : decode cX3_flying 4 = .ok (.getfield 88, 3) := by decide +kernel
theorem dX3_flying_7 : decode cX3_flying 7 = .ok (.ireturn, 1) := by decide +kernel
theorem dX3_message_0 : decode cX3_message 0 = .ok (.aload_n 0, 1) := by decide +kernel
theorem dX3_message_1 : decode cX3_message 1 = .ok (.getfield 29, 3) := by decide +kernel
theorem dX3_message_4 : decode cX3_message 4 = .ok (.iload_n 1, 1) := by decide +kernel
theorem dX3_message_5 : decode cX3_message 5 = .ok (.invokevirtual 91, 3) := by decide +kernel
theorem dX3_message_8 : decode cX3_message 8 = .ok (.astore_n 2, 1) := by decide +kernel
theorem dX3_message_9 : decode cX3_message 9 = .ok (.aload_n 2, 1) := by decide +kernel
theorem dX3_message_10 : decode cX3_message 10 = .ok (.ifnonnull 7, 3) := by decide +kernel
theorem dX3_message_13 : decode cX3_message 13 = .ok (.iconst (-1), 1) := by decide +kernel
theorem dX3_message_14 : decode cX3_message 14 = .ok (.goto 16, 3) := by decide +kernel
theorem dX3_message_17 : decode cX3_message 17 = .ok (.aload_n 2, 1) := by decide +kernel
theorem dX3_message_18 : decode cX3_message 18 = .ok (.getfield 95, 3) := by decide +kernel
theorem dX3_message_21 : decode cX3_message 21 = .ok (.sipush 256, 3) := by decide +kernel
theorem dX3_message_24 : decode cX3_message 24 = .ok (.imul, 1) := by decide +kernel
theorem dX3_message_25 : decode cX3_message 25 = .ok (.aload_n 2, 1) := by decide +kernel
theorem dX3_message_26 : decode cX3_message 26 = .ok (.getfield 98, 3) := by decide +kernel
theorem dX3_message_29 : decode cX3_message 29 = .ok (.iadd, 1) := by decide +kernel
theorem dX3_message_30 : decode cX3_message 30 = .ok (.ireturn, 1) := by decide +kernel
theorem dX3_successor_0 : decode cX3_successor 0 = .ok (.aload_n 0, 1) := by decide +kernel
theorem dX3_successor_1 : decode cX3_successor 1 = .ok (.iload_n 1, 1) := by decide +kernel
theorem dX3_successor_2 : decode cX3_successor 2 = .ok (.invokevirtual 47, 3) := by decide +kernel
theorem dX3_successor_5 : decode cX3_successor 5 = .ok (.astore_n 2, 1) := by decide +kernel
theorem dX3_successor_6 : decode cX3_successor 6 = .ok (.aload_n 2, 1) := by decide +kernel
theorem dX3_successor_7 : decode cX3_successor 7 = .ok (.ifnonnull 7, 3) := by decide +kernel
theorem dX3_successor_10 : decode cX3_successor 10 = .ok (.iconst (-1), 1) := by decide +kernel
theorem dX3_successor_11 : decode cX3_successor 11 = .ok (.goto 7, 3) := by decide +kernel
theorem dX3_successor_14 : decode cX3_successor 14 = .ok (.aload_n 2, 1) := by decide +kernel
theorem dX3_successor_15 : decode cX3_successor 15 = .ok (.getfield 41, 3) := by decide +kernel
theorem dX3_successor_18 : decode cX3_successor 18 = .ok (.ireturn, 1) := by decide +kernel
theorem dX3_predecessor_0 : decode cX3_predecessor 0 = .ok (.aload_n 0, 1) := by decide +kernel
theorem dX3_predecessor_1 : decode cX3_predecessor 1 = .ok (.iload_n 1, 1) := by decide +kernel
theorem dX3_predecessor_2 : decode cX3_predecessor 2 = .ok (.invokevirtual 47, 3) := by decide +kernel
theorem dX3_predecessor_5 : decode cX3_predecessor 5 = .ok (.astore_n 2, 1) := by decide +kernel
theorem dX3_predecessor_6 : decode cX3_predecessor 6 = .ok (.aload_n 2, 1) := by decide +kernel
theorem dX3_predecessor_7 : decode cX3_predecessor 7 = .ok (.ifnonnull 7, 3) := by decide +kernel
theorem dX3_predecessor_10 : decode cX3_predecessor 10 = .ok (.iconst (-1), 1) := by decide +kernel
theorem dX3_predecessor_11 : decode cX3_predecessor 11 = .ok (.goto 7, 3) := by decide +kernel
theorem dX3_predecessor_14 : decode cX3_predecessor 14 = .ok (.aload_n 2, 1) := by decide +kernel
theorem dX3_predecessor_15 : decode cX3_predecessor 15 = .ok (.getfield 101, 3) := by decide +kernel
theorem dX3_predecessor_18 : decode cX3_predecessor 18 = .ok (.ireturn, 1) := by decide +kernel
theorem dX3_finger_0 : decode cX3_finger 0 = .ok (.aload_n 0, 1) := by decide +kernel
theorem dX3_finger_1 : decode cX3_finger 1 = .ok (.iload_n 1, 1) := by decide +kernel
theorem dX3_finger_2 : decode cX3_finger 2 = .ok (.invokevirtual 47, 3) := by decide +kernel
theorem dX3_finger_5 : decode cX3_finger 5 = .ok (.astore_n 3, 1) := by decide +kernel
theorem dX3_finger_6 : decode cX3_finger 6 = .ok (.aload_n 3, 1) := by decide +kernel
theorem dX3_finger_7 : decode cX3_finger 7 = .ok (.ifnull 10, 3) := by decide +kernel
theorem dX3_finger_10 : decode cX3_finger 10 = .ok (.iload_n 2, 1) := by decide +kernel
theorem dX3_finger_11 : decode cX3_finger 11 = .ok (.invokestatic 67, 3) := by decide +kernel
theorem dX3_finger_14 : decode cX3_finger 14 = .ok (.ifCond .ne 7, 3) := by decide +kernel
theorem dX3_finger_17 : decode cX3_finger 17 = .ok (.iconst (-1), 1) := by decide +kernel
theorem dX3_finger_18 : decode cX3_finger 18 = .ok (.goto 9, 3) := by decide +kernel
theorem dX3_finger_21 : decode cX3_finger 21 = .ok (.aload_n 3, 1) := by decide +kernel
theorem dX3_finger_22 : decode cX3_finger 22 = .ok (.getfield 104, 3) := by decide +kernel
theorem dX3_finger_25 : decode cX3_finger 25 = .ok (.iload_n 2, 1) := by decide +kernel
theorem dX3_finger_26 : decode cX3_finger 26 = .ok (.iaload, 1) := by decide +kernel
theorem dX3_finger_27 : decode cX3_finger 27 = .ok (.ireturn, 1) := by decide +kernel
theorem dX3_entry_0 : decode cX3_entry 0 = .ok (.aload_n 0, 1) := by decide +kernel
theorem dX3_entry_1 : decode cX3_entry 1 = .ok (.iload_n 1, 1) := by decide +kernel
theorem dX3_entry_2 : decode cX3_entry 2 = .ok (.invokevirtual 47, 3) := by decide +kernel
theorem dX3_entry_5 : decode cX3_entry 5 = .ok (.astore_n 3, 1) := by decide +kernel
theorem dX3_entry_6 : decode cX3_entry 6 = .ok (.aload_n 3, 1) := by decide +kernel
theorem dX3_entry_7 : decode cX3_entry 7 = .ok (.ifnonnull 9, 3) := by decide +kernel
theorem dX3_entry_10 : decode cX3_entry 10 = .ok (.ldc2_w 107, 3) := by decide +kernel
theorem dX3_entry_13 : decode cX3_entry 13 = .ok (.goto 9, 3) := by decide +kernel
theorem dX3_entry_16 : decode cX3_entry 16 = .ok (.aload_n 0, 1) := by decide +kernel
theorem dX3_entry_17 : decode cX3_entry 17 = .ok (.aload_n 3, 1) := by decide +kernel
theorem dX3_entry_18 : decode cX3_entry 18 = .ok (.iload_n 2, 1) := by decide +kernel
theorem dX3_entry_19 : decode cX3_entry 19 = .ok (.invokevirtual 109, 3) := by decide +kernel
theorem dX3_entry_22 : decode cX3_entry 22 = .ok (.lreturn, 1) := by decide +kernel
theorem dX3_entries_0 : decode cX3_entries 0 = .ok (.aload_n 0, 1) := by decide +kernel
theorem dX3_entries_1 : decode cX3_entries 1 = .ok (.iload_n 1, 1) := by decide +kernel
theorem dX3_entries_2 : decode cX3_entries 2 = .ok (.invokevirtual 47, 3) := by decide +kernel
theorem dX3_entries_5 : decode cX3_entries 5 = .ok (.astore_n 2, 1) := by decide +kernel
theorem dX3_entries_6 : decode cX3_entries 6 = .ok (.aload_n 2, 1) := by decide +kernel
theorem dX3_entries_7 : decode cX3_entries 7 = .ok (.ifnonnull 5, 3) := by decide +kernel
theorem dX3_entries_10 : decode cX3_entries 10 = .ok (.iconst (-1), 1) := by decide +kernel
theorem dX3_entries_11 : decode cX3_entries 11 = .ok (.ireturn, 1) := by decide +kernel
theorem dX3_entries_12 : decode cX3_entries 12 = .ok (.iconst 0, 1) := by decide +kernel
theorem dX3_entries_13 : decode cX3_entries 13 = .ok (.istore_n 3, 1) := by decide +kernel
theorem dX3_entries_14 : decode cX3_entries 14 = .ok (.iconst 0, 1) := by decide +kernel
theorem dX3_entries_15 : decode cX3_entries 15 = .ok (.istore 4, 2) := by decide +kernel
theorem dX3_entries_17 : decode cX3_entries 17 = .ok (.iload 4, 2) := by decide +kernel
theorem dX3_entries_19 : decode cX3_entries 19 = .ok (.bipush 10, 2) := by decide +kernel
theorem dX3_entries_21 : decode cX3_entries 21 = .ok (.if_icmp .ge 26, 3) := by decide +kernel
theorem dX3_entries_24 : decode cX3_entries 24 = .ok (.aload_n 2, 1) := by decide +kernel
theorem dX3_entries_25 : decode cX3_entries 25 = .ok (.getfield 113, 3) := by decide +kernel
theorem dX3_entries_28 : decode cX3_entries 28 = .ok (.iload 4, 2) := by decide +kernel
theorem dX3_entries_30 : decode cX3_entries 30 = .ok (.laload, 1) := by decide +kernel
theorem dX3_entries_31 : decode cX3_entries 31 = .ok (.ldc2_w 107, 3) := by decide +kernel
theorem dX3_entries_34 : decode cX3_entries 34 = .ok (.lcmp, 1) := by decide +kernel
theorem dX3_entries_35 : decode cX3_entries 35 = .ok (.ifCond .eq 6, 3) := by decide +kernel
theorem dX3_entries_38 : decode cX3_entries 38 = .ok (.iinc 3 1, 3) := by decide +kernel
theorem dX3_entries_41 : decode cX3_entries 41 = .ok (.iinc 4 1, 3) := by decide +kernel
theorem dX3_entries_44 : decode cX3_entries 44 = .ok (.goto (-27), 3) := by decide +kernel
theorem dX3_entries_47 : decode cX3_entries 47 = .ok (.iload_n 3, 1) := by decide +kernel
theorem dX3_entries_48 : decode cX3_entries 48 = .ok (.ireturn, 1) := by decide +kernel
theorem dX3_answer_0 : decode cX3_answer 0 = .ok (.aload_n 0, 1) := by decide +kernel
theorem dX3_answer_1 : decode cX3_answer 1 = .ok (.iload_n 1, 1) := by decide +kernel
theorem dX3_answer_2 : decode cX3_answer 2 = .ok (.invokevirtual 44, 3) := by decide +kernel
theorem dX3_answer_5 : decode cX3_answer 5 = .ok (.astore_n 2, 1) := by decide +kernel
theorem dX3_answer_6 : decode cX3_answer 6 = .ok (.aload_n 2, 1) := by decide +kernel
theorem dX3_answer_7 : decode cX3_answer 7 = .ok (.ifnonnull 9, 3) := by decide +kernel
theorem dX3_answer_10 : decode cX3_answer 10 = .ok (.ldc2_w 117, 3) := by decide +kernel
theorem dX3_answer_13 : decode cX3_answer 13 = .ok (.goto 7, 3) := by decide +kernel
theorem dX3_answer_16 : decode cX3_answer 16 = .ok (.aload_n 2, 1) := by decide +kernel
theorem dX3_answer_17 : decode cX3_answer 17 = .ok (.getfield 119, 3) := by decide +kernel
theorem dX3_answer_20 : decode cX3_answer 20 = .ok (.lreturn, 1) := by decide +kernel
theorem dX3_hops_0 : decode cX3_hops 0 = .ok (.aload_n 0, 1) := by decide +kernel
theorem dX3_hops_1 : decode cX3_hops 1 = .ok (.iload_n 1, 1) := by decide +kernel
theorem dX3_hops_2 : decode cX3_hops 2 = .ok (.invokevirtual 44, 3) := by decide +kernel
theorem dX3_hops_5 : decode cX3_hops 5 = .ok (.astore_n 2, 1) := by decide +kernel
theorem dX3_hops_6 : decode cX3_hops 6 = .ok (.aload_n 2, 1) := by decide +kernel
theorem dX3_hops_7 : decode cX3_hops 7 = .ok (.ifnonnull 7, 3) := by decide +kernel
theorem dX3_hops_10 : decode cX3_hops 10 = .ok (.iconst (-1), 1) := by decide +kernel
theorem dX3_hops_11 : decode cX3_hops 11 = .ok (.goto 7, 3) := by decide +kernel
theorem dX3_hops_14 : decode cX3_hops 14 = .ok (.aload_n 2, 1) := by decide +kernel
theorem dX3_hops_15 : decode cX3_hops 15 = .ok (.getfield 122, 3) := by decide +kernel
theorem dX3_hops_18 : decode cX3_hops 18 = .ok (.ireturn, 1) := by decide +kernel
theorem dX3_owner_0 : decode cX3_owner 0 = .ok (.iload_n 1, 1) := by decide +kernel
theorem dX3_owner_1 : decode cX3_owner 1 = .ok (.invokestatic 33, 3) := by decide +kernel
theorem dX3_owner_4 : decode cX3_owner 4 = .ok (.ifCond .eq 11, 3) := by decide +kernel
theorem dX3_owner_7 : decode cX3_owner 7 = .ok (.aload_n 0, 1) := by decide +kernel
theorem dX3_owner_8 : decode cX3_owner 8 = .ok (.iload_n 1, 1) := by decide +kernel
theorem dX3_owner_9 : decode cX3_owner 9 = .ok (.invokevirtual 125, 3) := by decide +kernel
theorem dX3_owner_12 : decode cX3_owner 12 = .ok (.goto 4, 3) := by decide +kernel
theorem dX3_owner_15 : decode cX3_owner 15 = .ok (.iconst (-1), 1) := by decide +kernel
theorem dX3_owner_16 : decode cX3_owner 16 = .ok (.ireturn, 1) := by decide +kernel
theorem dX3_wrong_0 : decode cX3_wrong 0 = .ok (.iconst 0, 1) := by decide +kernel
theorem dX3_wrong_1 : decode cX3_wrong 1 = .ok (.istore_n 1, 1) := by decide +kernel
theorem dX3_wrong_2 : decode cX3_wrong 2 = .ok (.iconst 0, 1) := by decide +kernel
theorem dX3_wrong_3 : decode cX3_wrong 3 = .ok (.istore_n 2, 1) := by decide +kernel
theorem dX3_wrong_4 : decode cX3_wrong 4 = .ok (.iload_n 2, 1) := by decide +kernel
theorem dX3_wrong_5 : decode cX3_wrong 5 = .ok (.aload_n 0, 1) := by decide +kernel
theorem dX3_wrong_6 : decode cX3_wrong 6 = .ok (.getfield 15, 3) := by decide +kernel
theorem dX3_wrong_9 : decode cX3_wrong 9 = .ok (.if_icmp .ge 34, 3) := by decide +kernel
theorem dX3_wrong_12 : decode cX3_wrong 12 = .ok (.aload_n 0, 1) := by decide +kernel
theorem dX3_wrong_13 : decode cX3_wrong 13 = .ok (.getfield 11, 3) := by decide +kernel
theorem dX3_wrong_16 : decode cX3_wrong 16 = .ok (.iload_n 2, 1) := by decide +kernel
theorem dX3_wrong_17 : decode cX3_wrong 17 = .ok (.aaload, 1) := by decide +kernel
theorem dX3_wrong_18 : decode cX3_wrong 18 = .ok (.invokevirtual 128, 3) := by decide +kernel
theorem dX3_wrong_21 : decode cX3_wrong 21 = .ok (.ifCond .eq 16, 3) := by decide +kernel
theorem dX3_wrong_24 : decode cX3_wrong 24 = .ok (.iload_n 1, 1) := by decide +kernel
theorem dX3_wrong_25 : decode cX3_wrong 25 = .ok (.aload_n 0, 1) := by decide +kernel
theorem dX3_wrong_26 : decode cX3_wrong 26 = .ok (.aload_n 0, 1) := by decide +kernel
theorem dX3_wrong_27 : decode cX3_wrong 27 = .ok (.getfield 11, 3) := by decide +kernel
theorem dX3_wrong_30 : decode cX3_wrong 30 = .ok (.iload_n 2, 1) := by decide +kernel
theorem dX3_wrong_31 : decode cX3_wrong 31 = .ok (.aaload, 1) := by decide +kernel
theorem dX3_wrong_32 : decode cX3_wrong 32 = .ok (.invokevirtual 131, 3) := by decide +kernel
theorem dX3_wrong_35 : decode cX3_wrong 35 = .ok (.iadd, 1) := by decide +kernel
theorem dX3_wrong_36 : decode cX3_wrong 36 = .ok (.istore_n 1, 1) := by decide +kernel
theorem dX3_wrong_37 : decode cX3_wrong 37 = .ok (.iinc 2 1, 3) := by decide +kernel
theorem dX3_wrong_40 : decode cX3_wrong 40 = .ok (.goto (-36), 3) := by decide +kernel
theorem dX3_wrong_43 : decode cX3_wrong 43 = .ok (.iload_n 1, 1) := by decide +kernel
theorem dX3_wrong_44 : decode cX3_wrong 44 = .ok (.ireturn, 1) := by decide +kernel
theorem dX3_misplaced_0 : decode cX3_misplaced 0 = .ok (.iconst 0, 1) := by decide +kernel
theorem dX3_misplaced_1 : decode cX3_misplaced 1 = .ok (.istore_n 1, 1) := by decide +kernel
theorem dX3_misplaced_2 : decode cX3_misplaced 2 = .ok (.iconst 0, 1) := by decide +kernel
theorem dX3_misplaced_3 : decode cX3_misplaced 3 = .ok (.istore_n 2, 1) := by decide +kernel
theorem dX3_misplaced_4 : decode cX3_misplaced 4 = .ok (.iload_n 2, 1) := by decide +kernel
theorem dX3_misplaced_5 : decode cX3_misplaced 5 = .ok (.aload_n 0, 1) := by decide +kernel
theorem dX3_misplaced_6 : decode cX3_misplaced 6 = .ok (.getfield 23, 3) := by decide +kernel
theorem dX3_misplaced_9 : decode cX3_misplaced 9 = .ok (.if_icmp .ge 74, 3) := by decide +kernel
theorem dX3_misplaced_12 : decode cX3_misplaced 12 = .ok (.aload_n 0, 1) := by decide +kernel
theorem dX3_misplaced_13 : decode cX3_misplaced 13 = .ok (.aload_n 0, 1) := by decide +kernel
theorem dX3_misplaced_14 : decode cX3_misplaced 14 = .ok (.getfield 19, 3) := by decide +kernel
theorem dX3_misplaced_17 : decode cX3_misplaced 17 = .ok (.iload_n 2, 1) := by decide +kernel
theorem dX3_misplaced_18 : decode cX3_misplaced 18 = .ok (.iaload, 1) := by decide +kernel
theorem dX3_misplaced_19 : decode cX3_misplaced 19 = .ok (.invokevirtual 125, 3) := by decide +kernel
theorem dX3_misplaced_22 : decode cX3_misplaced 22 = .ok (.istore_n 3, 1) := by decide +kernel
theorem dX3_misplaced_23 : decode cX3_misplaced 23 = .ok (.iconst 0, 1) := by decide +kernel
theorem dX3_misplaced_24 : decode cX3_misplaced 24 = .ok (.istore 4, 2) := by decide +kernel
theorem dX3_misplaced_26 : decode cX3_misplaced 26 = .ok (.iload 4, 2) := by decide +kernel
theorem dX3_misplaced_28 : decode cX3_misplaced 28 = .ok (.aload_n 0, 1) := by decide +kernel
theorem dX3_misplaced_29 : decode cX3_misplaced 29 = .ok (.getfield 15, 3) := by decide +kernel
theorem dX3_misplaced_32 : decode cX3_misplaced 32 = .ok (.if_icmp .ge 45, 3) := by decide +kernel
theorem dX3_misplaced_35 : decode cX3_misplaced 35 = .ok (.aload_n 0, 1) := by decide +kernel
theorem dX3_misplaced_36 : decode cX3_misplaced 36 = .ok (.getfield 11, 3) := by decide +kernel
theorem dX3_misplaced_39 : decode cX3_misplaced 39 = .ok (.iload 4, 2) := by decide +kernel
theorem dX3_misplaced_41 : decode cX3_misplaced 41 = .ok (.aaload, 1) := by decide +kernel
theorem dX3_misplaced_42 : decode cX3_misplaced 42 = .ok (.getfield 113, 3) := by decide +kernel
theorem dX3_misplaced_45 : decode cX3_misplaced 45 = .ok (.iload_n 2, 1) := by decide +kernel
theorem dX3_misplaced_46 : decode cX3_misplaced 46 = .ok (.laload, 1) := by decide +kernel
theorem dX3_misplaced_47 : decode cX3_misplaced 47 = .ok (.ldc2_w 107, 3) := by decide +kernel
theorem dX3_misplaced_50 : decode cX3_misplaced 50 = .ok (.lcmp, 1) := by decide +kernel
theorem dX3_misplaced_51 : decode cX3_misplaced 51 = .ok (.ifCond .eq 20, 3) := by decide +kernel
theorem dX3_misplaced_54 : decode cX3_misplaced 54 = .ok (.aload_n 0, 1) := by decide +kernel
theorem dX3_misplaced_55 : decode cX3_misplaced 55 = .ok (.getfield 11, 3) := by decide +kernel
theorem dX3_misplaced_58 : decode cX3_misplaced 58 = .ok (.iload 4, 2) := by decide +kernel
theorem dX3_misplaced_60 : decode cX3_misplaced 60 = .ok (.aaload, 1) := by decide +kernel
theorem dX3_misplaced_61 : decode cX3_misplaced 61 = .ok (.getfield 135, 3) := by decide +kernel
theorem dX3_misplaced_64 : decode cX3_misplaced 64 = .ok (.iload_n 3, 1) := by decide +kernel
theorem dX3_misplaced_65 : decode cX3_misplaced 65 = .ok (.if_icmp .eq 6, 3) := by decide +kernel
theorem dX3_misplaced_68 : decode cX3_misplaced 68 = .ok (.iinc 1 1, 3) := by decide +kernel
theorem dX3_misplaced_71 : decode cX3_misplaced 71 = .ok (.iinc 4 1, 3) := by decide +kernel
theorem dX3_misplaced_74 : decode cX3_misplaced 74 = .ok (.goto (-48), 3) := by decide +kernel
theorem dX3_misplaced_77 : decode cX3_misplaced 77 = .ok (.iinc 2 1, 3) := by decide +kernel
theorem dX3_misplaced_80 : decode cX3_misplaced 80 = .ok (.goto (-76), 3) := by decide +kernel
theorem dX3_misplaced_83 : decode cX3_misplaced 83 = .ok (.iload_n 1, 1) := by decide +kernel
theorem dX3_misplaced_84 : decode cX3_misplaced 84 = .ok (.ireturn, 1) := by decide +kernel
theorem dX3_isId_0 : decode cX3_isId 0 = .ok (.iload_n 0, 1) := by decide +kernel
theorem dX3_isId_1 : decode cX3_isId 1 = .ok (.ifCond .lt 14, 3) := by decide +kernel
theorem dX3_isId_4 : decode cX3_isId 4 = .ok (.iload_n 0, 1) := by decide +kernel
theorem dX3_isId_5 : decode cX3_isId 5 = .ok (.sipush 256, 3) := by decide +kernel
theorem dX3_isId_8 : decode cX3_isId 8 = .ok (.if_icmp .ge 7, 3) := by decide +kernel
theorem dX3_isId_11 : decode cX3_isId 11 = .ok (.iconst 1, 1) := by decide +kernel
theorem dX3_isId_12 : decode cX3_isId 12 = .ok (.goto 4, 3) := by decide +kernel
theorem dX3_isId_15 : decode cX3_isId 15 = .ok (.iconst 0, 1) := by decide +kernel
theorem dX3_isId_16 : decode cX3_isId 16 = .ok (.ireturn, 1) := by decide +kernel
theorem dX3_isFinger_0 : decode cX3_isFinger 0 = .ok (.iload_n 0, 1) := by decide +kernel
theorem dX3_isFinger_1 : decode cX3_isFinger 1 = .ok (.ifCond .lt 13, 3) := by decide +kernel
theorem dX3_isFinger_4 : decode cX3_isFinger 4 = .ok (.iload_n 0, 1) := by decide +kernel
theorem dX3_isFinger_5 : decode cX3_isFinger 5 = .ok (.bipush 8, 2) := by decide +kernel
theorem dX3_isFinger_7 : decode cX3_isFinger 7 = .ok (.if_icmp .ge 7, 3) := by decide +kernel
theorem dX3_isFinger_10 : decode cX3_isFinger 10 = .ok (.iconst 1, 1) := by decide +kernel
theorem dX3_isFinger_11 : decode cX3_isFinger 11 = .ok (.goto 4, 3) := by decide +kernel
theorem dX3_isFinger_14 : decode cX3_isFinger 14 = .ok (.iconst 0, 1) := by decide +kernel
theorem dX3_isFinger_15 : decode cX3_isFinger 15 = .ok (.ireturn, 1) := by decide +kernel
theorem dX3_fingerStart_0 : decode cX3_fingerStart 0 = .ok (.iload_n 0, 1) := by decide +kernel
theorem dX3_fingerStart_1 : decode cX3_fingerStart 1 = .ok (.iconst 1, 1) := by decide +kernel
theorem dX3_fingerStart_2 : decode cX3_fingerStart 2 = .ok (.iload_n 1, 1) := by decide +kernel
theorem dX3_fingerStart_3 : decode cX3_fingerStart 3 = .ok (.ishl, 1) := by decide +kernel
theorem dX3_fingerStart_4 : decode cX3_fingerStart 4 = .ok (.iadd, 1) := by decide +kernel
theorem dX3_fingerStart_5 : decode cX3_fingerStart 5 = .ok (.sipush 255, 3) := by decide +kernel
theorem dX3_fingerStart_8 : decode cX3_fingerStart 8 = .ok (.iand, 1) := by decide +kernel
theorem dX3_fingerStart_9 : decode cX3_fingerStart 9 = .ok (.ireturn, 1) := by decide +kernel
theorem dX3_stepsUp_0 : decode cX3_stepsUp 0 = .ok (.iload_n 1, 1) := by decide +kernel
theorem dX3_stepsUp_1 : decode cX3_stepsUp 1 = .ok (.iload_n 0, 1) := by decide +kernel
theorem dX3_stepsUp_2 : decode cX3_stepsUp 2 = .ok (.isub, 1) := by decide +kernel
theorem dX3_stepsUp_3 : decode cX3_stepsUp 3 = .ok (.iconst 1, 1) := by decide +kernel
theorem dX3_stepsUp_4 : decode cX3_stepsUp 4 = .ok (.isub, 1) := by decide +kernel
theorem dX3_stepsUp_5 : decode cX3_stepsUp 5 = .ok (.sipush 255, 3) := by decide +kernel
theorem dX3_stepsUp_8 : decode cX3_stepsUp 8 = .ok (.iand, 1) := by decide +kernel
theorem dX3_stepsUp_9 : decode cX3_stepsUp 9 = .ok (.iconst 1, 1) := by decide +kernel
theorem dX3_stepsUp_10 : decode cX3_stepsUp 10 = .ok (.iadd, 1) := by decide +kernel
theorem dX3_stepsUp_11 : decode cX3_stepsUp 11 = .ok (.ireturn, 1) := by decide +kernel
theorem dX3_isPastUpTo_0 : decode cX3_isPastUpTo 0 = .ok (.iload_n 0, 1) := by decide +kernel
theorem dX3_isPastUpTo_1 : decode cX3_isPastUpTo 1 = .ok (.iload_n 2, 1) := by decide +kernel
theorem dX3_isPastUpTo_2 : decode cX3_isPastUpTo 2 = .ok (.invokestatic 138, 3) := by decide +kernel
theorem dX3_isPastUpTo_5 : decode cX3_isPastUpTo 5 = .ok (.iload_n 0, 1) := by decide +kernel
theorem dX3_isPastUpTo_6 : decode cX3_isPastUpTo 6 = .ok (.iload_n 1, 1) := by decide +kernel
theorem dX3_isPastUpTo_7 : decode cX3_isPastUpTo 7 = .ok (.invokestatic 138, 3) := by decide +kernel
theorem dX3_isPastUpTo_10 : decode cX3_isPastUpTo 10 = .ok (.if_icmp .gt 7, 3) := by decide +kernel
theorem dX3_isPastUpTo_13 : decode cX3_isPastUpTo 13 = .ok (.iconst 1, 1) := by decide +kernel
theorem dX3_isPastUpTo_14 : decode cX3_isPastUpTo 14 = .ok (.goto 4, 3) := by decide +kernel
theorem dX3_isPastUpTo_17 : decode cX3_isPastUpTo 17 = .ok (.iconst 0, 1) := by decide +kernel
theorem dX3_isPastUpTo_18 : decode cX3_isPastUpTo 18 = .ok (.ireturn, 1) := by decide +kernel
theorem dX3_isBetween_0 : decode cX3_isBetween 0 = .ok (.iload_n 0, 1) := by decide +kernel
theorem dX3_isBetween_1 : decode cX3_isBetween 1 = .ok (.iload_n 2, 1) := by decide +kernel
theorem dX3_isBetween_2 : decode cX3_isBetween 2 = .ok (.invokestatic 138, 3) := by decide +kernel
theorem dX3_isBetween_5 : decode cX3_isBetween 5 = .ok (.iload_n 0, 1) := by decide +kernel
theorem dX3_isBetween_6 : decode cX3_isBetween 6 = .ok (.iload_n 1, 1) := by decide +kernel
theorem dX3_isBetween_7 : decode cX3_isBetween 7 = .ok (.invokestatic 138, 3) := by decide +kernel
theorem dX3_isBetween_10 : decode cX3_isBetween 10 = .ok (.if_icmp .ge 7, 3) := by decide +kernel
theorem dX3_isBetween_13 : decode cX3_isBetween 13 = .ok (.iconst 1, 1) := by decide +kernel
theorem dX3_isBetween_14 : decode cX3_isBetween 14 = .ok (.goto 4, 3) := by decide +kernel
theorem dX3_isBetween_17 : decode cX3_isBetween 17 = .ok (.iconst 0, 1) := by decide +kernel
theorem dX3_isBetween_18 : decode cX3_isBetween 18 = .ok (.ireturn, 1) := by decide +kernel
theorem dX3_addNode_0 : decode cX3_addNode 0 = .ok (.new 9, 3) := by decide +kernel
theorem dX3_addNode_3 : decode cX3_addNode 3 = .ok (.dup, 1) := by decide +kernel
theorem dX3_addNode_4 : decode cX3_addNode 4 = .ok (.iload_n 1, 1) := by decide +kernel
theorem dX3_addNode_5 : decode cX3_addNode 5 = .ok (.invokespecial 141, 3) := by decide +kernel
theorem dX3_addNode_8 : decode cX3_addNode 8 = .ok (.astore_n 2, 1) := by decide +kernel
theorem dX3_addNode_9 : decode cX3_addNode 9 = .ok (.aload_n 0, 1) := by decide +kernel
theorem dX3_addNode_10 : decode cX3_addNode 10 = .ok (.getfield 15, 3) := by decide +kernel
theorem dX3_addNode_13 : decode cX3_addNode 13 = .ok (.bipush 12, 2) := by decide +kernel
theorem dX3_addNode_15 : decode cX3_addNode 15 = .ok (.if_icmp .ge 23, 3) := by decide +kernel
theorem dX3_addNode_18 : decode cX3_addNode 18 = .ok (.aload_n 0, 1) := by decide +kernel
theorem dX3_addNode_19 : decode cX3_addNode 19 = .ok (.getfield 11, 3) := by decide +kernel
theorem dX3_addNode_22 : decode cX3_addNode 22 = .ok (.aload_n 0, 1) := by decide +kernel
theorem dX3_addNode_23 : decode cX3_addNode 23 = .ok (.getfield 15, 3) := by decide +kernel
theorem dX3_addNode_26 : decode cX3_addNode 26 = .ok (.aload_n 2, 1) := by decide +kernel
theorem dX3_addNode_27 : decode cX3_addNode 27 = .ok (.aastore, 1) := by decide +kernel
theorem dX3_addNode_28 : decode cX3_addNode 28 = .ok (.aload_n 0, 1) := by decide +kernel
theorem dX3_addNode_29 : decode cX3_addNode 29 = .ok (.dup, 1) := by decide +kernel
theorem dX3_addNode_30 : decode cX3_addNode 30 = .ok (.getfield 15, 3) := by decide +kernel
theorem dX3_addNode_33 : decode cX3_addNode 33 = .ok (.iconst 1, 1) := by decide +kernel
theorem dX3_addNode_34 : decode cX3_addNode 34 = .ok (.iadd, 1) := by decide +kernel
theorem dX3_addNode_35 : decode cX3_addNode 35 = .ok (.putfield 15, 3) := by decide +kernel
theorem dX3_addNode_38 : decode cX3_addNode 38 = .ok (.aload_n 2, 1) := by decide +kernel
theorem dX3_addNode_39 : decode cX3_addNode 39 = .ok (.areturn, 1) := by decide +kernel
theorem dX3_nodeWith_0 : decode cX3_nodeWith 0 = .ok (.iconst 0, 1) := by decide +kernel
theorem dX3_nodeWith_1 : decode cX3_nodeWith 1 = .ok (.istore_n 2, 1) := by decide +kernel
theorem dX3_nodeWith_2 : decode cX3_nodeWith 2 = .ok (.iload_n 2, 1) := by decide +kernel
theorem dX3_nodeWith_3 : decode cX3_nodeWith 3 = .ok (.aload_n 0, 1) := by decide +kernel
theorem dX3_nodeWith_4 : decode cX3_nodeWith 4 = .ok (.getfield 15, 3) := by decide +kernel
theorem dX3_nodeWith_7 : decode cX3_nodeWith 7 = .ok (.if_icmp .ge 29, 3) := by decide +kernel
theorem dX3_nodeWith_10 : decode cX3_nodeWith 10 = .ok (.aload_n 0, 1) := by decide +kernel
theorem dX3_nodeWith_11 : decode cX3_nodeWith 11 = .ok (.getfield 11, 3) := by decide +kernel
theorem dX3_nodeWith_14 : decode cX3_nodeWith 14 = .ok (.iload_n 2, 1) := by decide +kernel
theorem dX3_nodeWith_15 : decode cX3_nodeWith 15 = .ok (.aaload, 1) := by decide +kernel
theorem dX3_nodeWith_16 : decode cX3_nodeWith 16 = .ok (.getfield 135, 3) := by decide +kernel
theorem dX3_nodeWith_19 : decode cX3_nodeWith 19 = .ok (.iload_n 1, 1) := by decide +kernel
theorem dX3_nodeWith_20 : decode cX3_nodeWith 20 = .ok (.if_icmp .ne 10, 3) := by decide +kernel
theorem dX3_nodeWith_23 : decode cX3_nodeWith 23 = .ok (.aload_n 0, 1) := by decide +kernel
theorem dX3_nodeWith_24 : decode cX3_nodeWith 24 = .ok (.getfield 11, 3) := by decide +kernel
theorem dX3_nodeWith_27 : decode cX3_nodeWith 27 = .ok (.iload_n 2, 1) := by decide +kernel
theorem dX3_nodeWith_28 : decode cX3_nodeWith 28 = .ok (.aaload, 1) := by decide +kernel
theorem dX3_nodeWith_29 : decode cX3_nodeWith 29 = .ok (.areturn, 1) := by decide +kernel
theorem dX3_nodeWith_30 : decode cX3_nodeWith 30 = .ok (.iinc 2 1, 3) := by decide +kernel
theorem dX3_nodeWith_33 : decode cX3_nodeWith 33 = .ok (.goto (-31), 3) := by decide +kernel
theorem dX3_nodeWith_36 : decode cX3_nodeWith 36 = .ok (.aconst_null, 1) := by decide +kernel
theorem dX3_nodeWith_37 : decode cX3_nodeWith 37 = .ok (.areturn, 1) := by decide +kernel
theorem dX3_memberWith_0 : decode cX3_memberWith 0 = .ok (.aload_n 0, 1) := by decide +kernel
theorem dX3_memberWith_1 : decode cX3_memberWith 1 = .ok (.iload_n 1, 1) := by decide +kernel
theorem dX3_memberWith_2 : decode cX3_memberWith 2 = .ok (.invokevirtual 44, 3) := by decide +kernel
theorem dX3_memberWith_5 : decode cX3_memberWith 5 = .ok (.astore_n 2, 1) := by decide +kernel
theorem dX3_memberWith_6 : decode cX3_memberWith 6 = .ok (.aload_n 2, 1) := by decide +kernel
theorem dX3_memberWith_7 : decode cX3_memberWith 7 = .ok (.ifnull 14, 3) := by decide +kernel
theorem dX3_memberWith_10 : decode cX3_memberWith 10 = .ok (.aload_n 2, 1) := by decide +kernel
theorem dX3_memberWith_11 : decode cX3_memberWith 11 = .ok (.invokevirtual 128, 3) := by decide +kernel
theorem dX3_memberWith_14 : decode cX3_memberWith 14 = .ok (.ifCond .eq 7, 3) := by decide +kernel
theorem dX3_memberWith_17 : decode cX3_memberWith 17 = .ok (.aload_n 2, 1) := by decide +kernel
theorem dX3_memberWith_18 : decode cX3_memberWith 18 = .ok (.goto 4, 3) := by decide +kernel
theorem dX3_memberWith_21 : decode cX3_memberWith 21 = .ok (.aconst_null, 1) := by decide +kernel
theorem dX3_memberWith_22 : decode cX3_memberWith 22 = .ok (.areturn, 1) := by decide +kernel
theorem dX3_firstUpFrom_0 : decode cX3_firstUpFrom 0 = .ok (.iconst (-1), 1) := by decide +kernel
theorem dX3_firstUpFrom_1 : decode cX3_firstUpFrom 1 = .ok (.istore_n 2, 1) := by decide +kernel
theorem dX3_firstUpFrom_2 : decode cX3_firstUpFrom 2 = .ok (.iconst 0, 1) := by decide +kernel
theorem dX3_firstUpFrom_3 : decode cX3_firstUpFrom 3 = .ok (.istore_n 3, 1) := by decide +kernel
theorem dX3_firstUpFrom_4 : decode cX3_firstUpFrom 4 = .ok (.iload_n 3, 1) := by decide +kernel
theorem dX3_firstUpFrom_5 : decode cX3_firstUpFrom 5 = .ok (.aload_n 0, 1) := by decide +kernel
theorem dX3_firstUpFrom_6 : decode cX3_firstUpFrom 6 = .ok (.getfield 15, 3) := by decide +kernel
theorem dX3_firstUpFrom_9 : decode cX3_firstUpFrom 9 = .ok (.if_icmp .ge 58, 3) := by decide +kernel
theorem dX3_firstUpFrom_12 : decode cX3_firstUpFrom 12 = .ok (.aload_n 0, 1) := by decide +kernel
theorem dX3_firstUpFrom_13 : decode cX3_firstUpFrom 13 = .ok (.getfield 11, 3) := by decide +kernel
theorem dX3_firstUpFrom_16 : decode cX3_firstUpFrom 16 = .ok (.iload_n 3, 1) := by decide +kernel
theorem dX3_firstUpFrom_17 : decode cX3_firstUpFrom 17 = .ok (.aaload, 1) := by decide +kernel
theorem dX3_firstUpFrom_18 : decode cX3_firstUpFrom 18 = .ok (.getfield 135, 3) := by decide +kernel
theorem dX3_firstUpFrom_21 : decode cX3_firstUpFrom 21 = .ok (.istore 4, 2) := by decide +kernel
theorem dX3_firstUpFrom_23 : decode cX3_firstUpFrom 23 = .ok (.aload_n 0, 1) := by decide +kernel
theorem dX3_firstUpFrom_24 : decode cX3_firstUpFrom 24 = .ok (.getfield 11, 3) := by decide +kernel
theorem dX3_firstUpFrom_27 : decode cX3_firstUpFrom 27 = .ok (.iload_n 3, 1) := by decide +kernel
theorem dX3_firstUpFrom_28 : decode cX3_firstUpFrom 28 = .ok (.aaload, 1) := by decide +kernel
theorem dX3_firstUpFrom_29 : decode cX3_firstUpFrom 29 = .ok (.invokevirtual 128, 3) := by decide +kernel
theorem dX3_firstUpFrom_32 : decode cX3_firstUpFrom 32 = .ok (.ifCond .eq 29, 3) := by decide +kernel
theorem dX3_firstUpFrom_35 : decode cX3_firstUpFrom 35 = .ok (.iload_n 2, 1) := by decide +kernel
theorem dX3_firstUpFrom_36 : decode cX3_firstUpFrom 36 = .ok (.iconst (-1), 1) := by decide +kernel
theorem dX3_firstUpFrom_37 : decode cX3_firstUpFrom 37 = .ok (.if_icmp .eq 21, 3) := by decide +kernel
theorem dX3_firstUpFrom_40 : decode cX3_firstUpFrom 40 = .ok (.iload_n 1, 1) := by decide +kernel
theorem dX3_firstUpFrom_41 : decode cX3_firstUpFrom 41 = .ok (.iconst 1, 1) := by decide +kernel
theorem dX3_firstUpFrom_42 : decode cX3_firstUpFrom 42 = .ok (.isub, 1) := by decide +kernel
theorem dX3_firstUpFrom_43 : decode cX3_firstUpFrom 43 = .ok (.iload 4, 2) := by decide +kernel
theorem dX3_firstUpFrom_45 : decode cX3_firstUpFrom 45 = .ok (.invokestatic 138, 3) := by decide +kernel
theorem dX3_firstUpFrom_48 : decode cX3_firstUpFrom 48 = .ok (.iload_n 1, 1) := by decide +kernel
theorem dX3_firstUpFrom_49 : decode cX3_firstUpFrom 49 = .ok (.iconst 1, 1) := by decide +kernel
theorem dX3_firstUpFrom_50 : decode cX3_firstUpFrom 50 = .ok (.isub, 1) := by decide +kernel
theorem dX3_firstUpFrom_51 : decode cX3_firstUpFrom 51 = .ok (.iload_n 2, 1) := by decide +kernel
theorem dX3_firstUpFrom_52 : decode cX3_firstUpFrom 52 = .ok (.invokestatic 138, 3) := by decide +kernel
theorem dX3_firstUpFrom_55 : decode cX3_firstUpFrom 55 = .ok (.if_icmp .ge 6, 3) := by decide +kernel
theorem dX3_firstUpFrom_58 : decode cX3_firstUpFrom 58 = .ok (.iload 4, 2) := by decide +kernel
theorem dX3_firstUpFrom_60 : decode cX3_firstUpFrom 60 = .ok (.istore_n 2, 1) := by decide +kernel
theorem dX3_firstUpFrom_61 : decode cX3_firstUpFrom 61 = .ok (.iinc 3 1, 3) := by decide +kernel
theorem dX3_firstUpFrom_64 : decode cX3_firstUpFrom 64 = .ok (.goto (-60), 3) := by decide +kernel
theorem dX3_firstUpFrom_67 : decode cX3_firstUpFrom 67 = .ok (.iload_n 2, 1) := by decide +kernel
theorem dX3_firstUpFrom_68 : decode cX3_firstUpFrom 68 = .ok (.ireturn, 1) := by decide +kernel
theorem dX3_firstDownFrom_0 : decode cX3_firstDownFrom 0 = .ok (.iconst (-1), 1) := by decide +kernel
theorem dX3_firstDownFrom_1 : decode cX3_firstDownFrom 1 = .ok (.istore_n 2, 1) := by decide +kernel
theorem dX3_firstDownFrom_2 : decode cX3_firstDownFrom 2 = .ok (.iconst 0, 1) := by decide +kernel
theorem dX3_firstDownFrom_3 : decode cX3_firstDownFrom 3 = .ok (.istore_n 3, 1) := by decide +kernel
theorem dX3_firstDownFrom_4 : decode cX3_firstDownFrom 4 = .ok (.iload_n 3, 1) := by decide +kernel
theorem dX3_firstDownFrom_5 : decode cX3_firstDownFrom 5 = .ok (.aload_n 0, 1) := by decide +kernel
theorem dX3_firstDownFrom_6 : decode cX3_firstDownFrom 6 = .ok (.getfield 15, 3) := by decide +kernel
theorem dX3_firstDownFrom_9 : decode cX3_firstDownFrom 9 = .ok (.if_icmp .ge 58, 3) := by decide +kernel
theorem dX3_firstDownFrom_12 : decode cX3_firstDownFrom 12 = .ok (.aload_n 0, 1) := by decide +kernel
theorem dX3_firstDownFrom_13 : decode cX3_firstDownFrom 13 = .ok (.getfield 11, 3) := by decide +kernel
theorem dX3_firstDownFrom_16 : decode cX3_firstDownFrom 16 = .ok (.iload_n 3, 1) := by decide +kernel
theorem dX3_firstDownFrom_17 : decode cX3_firstDownFrom 17 = .ok (.aaload, 1) := by decide +kernel
theorem dX3_firstDownFrom_18 : decode cX3_firstDownFrom 18 = .ok (.getfield 135, 3) := by decide +kernel
theorem dX3_firstDownFrom_21 : decode cX3_firstDownFrom 21 = .ok (.istore 4, 2) := by decide +kernel
theorem dX3_firstDownFrom_23 : decode cX3_firstDownFrom 23 = .ok (.aload_n 0, 1) := by decide +kernel
theorem dX3_firstDownFrom_24 : decode cX3_firstDownFrom 24 = .ok (.getfield 11, 3) := by decide +kernel
theorem dX3_firstDownFrom_27 : decode cX3_firstDownFrom 27 = .ok (.iload_n 3, 1) := by decide +kernel
theorem dX3_firstDownFrom_28 : decode cX3_firstDownFrom 28 = .ok (.aaload, 1) := by decide +kernel
theorem dX3_firstDownFrom_29 : decode cX3_firstDownFrom 29 = .ok (.invokevirtual 128, 3) := by decide +kernel
theorem dX3_firstDownFrom_32 : decode cX3_firstDownFrom 32 = .ok (.ifCond .eq 29, 3) := by decide +kernel
theorem dX3_firstDownFrom_35 : decode cX3_firstDownFrom 35 = .ok (.iload_n 2, 1) := by decide +kernel
theorem dX3_firstDownFrom_36 : decode cX3_firstDownFrom 36 = .ok (.iconst (-1), 1) := by decide +kernel
theorem dX3_firstDownFrom_37 : decode cX3_firstDownFrom 37 = .ok (.if_icmp .eq 21, 3) := by decide +kernel
theorem dX3_firstDownFrom_40 : decode cX3_firstDownFrom 40 = .ok (.iload 4, 2) := by decide +kernel
theorem dX3_firstDownFrom_42 : decode cX3_firstDownFrom 42 = .ok (.iload_n 1, 1) := by decide +kernel
theorem dX3_firstDownFrom_43 : decode cX3_firstDownFrom 43 = .ok (.iconst 1, 1) := by decide +kernel
theorem dX3_firstDownFrom_44 : decode cX3_firstDownFrom 44 = .ok (.iadd, 1) := by decide +kernel
theorem dX3_firstDownFrom_45 : decode cX3_firstDownFrom 45 = .ok (.invokestatic 138, 3) := by decide +kernel
theorem dX3_firstDownFrom_48 : decode cX3_firstDownFrom 48 = .ok (.iload_n 2, 1) := by decide +kernel
theorem dX3_firstDownFrom_49 : decode cX3_firstDownFrom 49 = .ok (.iload_n 1, 1) := by decide +kernel
theorem dX3_firstDownFrom_50 : decode cX3_firstDownFrom 50 = .ok (.iconst 1, 1) := by decide +kernel
theorem dX3_firstDownFrom_51 : decode cX3_firstDownFrom 51 = .ok (.iadd, 1) := by decide +kernel
theorem dX3_firstDownFrom_52 : decode cX3_firstDownFrom 52 = .ok (.invokestatic 138, 3) := by decide +kernel
theorem dX3_firstDownFrom_55 : decode cX3_firstDownFrom 55 = .ok (.if_icmp .ge 6, 3) := by decide +kernel
theorem dX3_firstDownFrom_58 : decode cX3_firstDownFrom 58 = .ok (.iload 4, 2) := by decide +kernel
theorem dX3_firstDownFrom_60 : decode cX3_firstDownFrom 60 = .ok (.istore_n 2, 1) := by decide +kernel
theorem dX3_firstDownFrom_61 : decode cX3_firstDownFrom 61 = .ok (.iinc 3 1, 3) := by decide +kernel
theorem dX3_firstDownFrom_64 : decode cX3_firstDownFrom 64 = .ok (.goto (-60), 3) := by decide +kernel
theorem dX3_firstDownFrom_67 : decode cX3_firstDownFrom 67 = .ok (.iload_n 2, 1) := by decide +kernel
theorem dX3_firstDownFrom_68 : decode cX3_firstDownFrom 68 = .ok (.ireturn, 1) := by decide +kernel
theorem dX3_wrongPointers_0 : decode cX3_wrongPointers 0 = .ok (.iconst 0, 1) := by decide +kernel
theorem dX3_wrongPointers_1 : decode cX3_wrongPointers 1 = .ok (.istore_n 2, 1) := by decide +kernel
theorem dX3_wrongPointers_2 : decode cX3_wrongPointers 2 = .ok (.aload_n 1, 1) := by decide +kernel
theorem dX3_wrongPointers_3 : decode cX3_wrongPointers 3 = .ok (.getfield 41, 3) := by decide +kernel
theorem dX3_wrongPointers_6 : decode cX3_wrongPointers 6 = .ok (.aload_n 0, 1) := by decide +kernel
theorem dX3_wrongPointers_7 : decode cX3_wrongPointers 7 = .ok (.aload_n 1, 1) := by decide +kernel
theorem dX3_wrongPointers_8 : decode cX3_wrongPointers 8 = .ok (.getfield 135, 3) := by decide +kernel
theorem dX3_wrongPointers_11 : decode cX3_wrongPointers 11 = .ok (.iconst 1, 1) := by decide +kernel
theorem dX3_wrongPointers_12 : decode cX3_wrongPointers 12 = .ok (.iadd, 1) := by decide +kernel
theorem dX3_wrongPointers_13 : decode cX3_wrongPointers 13 = .ok (.invokevirtual 125, 3) := by decide +kernel
theorem dX3_wrongPointers_16 : decode cX3_wrongPointers 16 = .ok (.if_icmp .eq 6, 3) := by decide +kernel
theorem dX3_wrongPointers_19 : decode cX3_wrongPointers 19 = .ok (.iinc 2 1, 3) := by decide +kernel
theorem dX3_wrongPointers_22 : decode cX3_wrongPointers 22 = .ok (.aload_n 1, 1) := by decide +kernel
theorem dX3_wrongPointers_23 : decode cX3_wrongPointers 23 = .ok (.getfield 101, 3) := by decide +kernel
theorem dX3_wrongPointers_26 : decode cX3_wrongPointers 26 = .ok (.aload_n 0, 1) := by decide +kernel
theorem dX3_wrongPointers_27 : decode cX3_wrongPointers 27 = .ok (.aload_n 1, 1) := by decide +kernel
theorem dX3_wrongPointers_28 : decode cX3_wrongPointers 28 = .ok (.getfield 135, 3) := by decide +kernel
theorem dX3_wrongPointers_31 : decode cX3_wrongPointers 31 = .ok (.iconst 1, 1) := by decide +kernel
theorem dX3_wrongPointers_32 : decode cX3_wrongPointers 32 = .ok (.isub, 1) := by decide +kernel
theorem dX3_wrongPointers_33 : decode cX3_wrongPointers 33 = .ok (.invokevirtual 144, 3) := by decide +kernel
theorem dX3_wrongPointers_36 : decode cX3_wrongPointers 36 = .ok (.if_icmp .eq 6, 3) := by decide +kernel
theorem dX3_wrongPointers_39 : decode cX3_wrongPointers 39 = .ok (.iinc 2 1, 3) := by decide +kernel
theorem dX3_wrongPointers_42 : decode cX3_wrongPointers 42 = .ok (.iconst 0, 1) := by decide +kernel
theorem dX3_wrongPointers_43 : decode cX3_wrongPointers 43 = .ok (.istore_n 3, 1) := by decide +kernel
theorem dX3_wrongPointers_44 : decode cX3_wrongPointers 44 = .ok (.iload_n 3, 1) := by decide +kernel
theorem dX3_wrongPointers_45 : decode cX3_wrongPointers 45 = .ok (.bipush 8, 2) := by decide +kernel
theorem dX3_wrongPointers_47 : decode cX3_wrongPointers 47 = .ok (.if_icmp .ge 33, 3) := by decide +kernel
theorem dX3_wrongPointers_50 : decode cX3_wrongPointers 50 = .ok (.aload_n 1, 1) := by decide +kernel
theorem dX3_wrongPointers_51 : decode cX3_wrongPointers 51 = .ok (.getfield 104, 3) := by decide +kernel
theorem dX3_wrongPointers_54 : decode cX3_wrongPointers 54 = .ok (.iload_n 3, 1) := by decide +kernel
theorem dX3_wrongPointers_55 : decode cX3_wrongPointers 55 = .ok (.iaload, 1) := by decide +kernel
theorem dX3_wrongPointers_56 : decode cX3_wrongPointers 56 = .ok (.aload_n 0, 1) := by decide +kernel
theorem dX3_wrongPointers_57 : decode cX3_wrongPointers 57 = .ok (.aload_n 1, 1) := by decide +kernel
theorem dX3_wrongPointers_58 : decode cX3_wrongPointers 58 = .ok (.getfield 135, 3) := by decide +kernel
theorem dX3_wrongPointers_61 : decode cX3_wrongPointers 61 = .ok (.iload_n 3, 1) := by decide +kernel
theorem dX3_wrongPointers_62 : decode cX3_wrongPointers 62 = .ok (.invokestatic 70, 3) := by decide +kernel
theorem dX3_wrongPointers_65 : decode cX3_wrongPointers 65 = .ok (.invokevirtual 125, 3) := by decide +kernel
theorem dX3_wrongPointers_68 : decode cX3_wrongPointers 68 = .ok (.if_icmp .eq 6, 3) := by decide +kernel
theorem dX3_wrongPointers_71 : decode cX3_wrongPointers 71 = .ok (.iinc 2 1, 3) := by decide +kernel
theorem dX3_wrongPointers_74 : decode cX3_wrongPointers 74 = .ok (.iinc 3 1, 3) := by decide +kernel
theorem dX3_wrongPointers_77 : decode cX3_wrongPointers 77 = .ok (.goto (-33), 3) := by decide +kernel
theorem dX3_wrongPointers_80 : decode cX3_wrongPointers 80 = .ok (.iload_n 2, 1) := by decide +kernel
theorem dX3_wrongPointers_81 : decode cX3_wrongPointers 81 = .ok (.ireturn, 1) := by decide +kernel
theorem dX3_slotOf_0 : decode cX3_slotOf 0 = .ok (.iconst 0, 1) := by decide +kernel
theorem dX3_slotOf_1 : decode cX3_slotOf 1 = .ok (.istore_n 2, 1) := by decide +kernel
theorem dX3_slotOf_2 : decode cX3_slotOf 2 = .ok (.iload_n 2, 1) := by decide +kernel
theorem dX3_slotOf_3 : decode cX3_slotOf 3 = .ok (.aload_n 0, 1) := by decide +kernel
theorem dX3_slotOf_4 : decode cX3_slotOf 4 = .ok (.getfield 23, 3) := by decide +kernel
theorem dX3_slotOf_7 : decode cX3_slotOf 7 = .ok (.if_icmp .ge 21, 3) := by decide +kernel
theorem dX3_slotOf_10 : decode cX3_slotOf 10 = .ok (.aload_n 0, 1) := by decide +kernel
theorem dX3_slotOf_11 : decode cX3_slotOf 11 = .ok (.getfield 19, 3) := by decide +kernel
theorem dX3_slotOf_14 : decode cX3_slotOf 14 = .ok (.iload_n 2, 1) := by decide +kernel
theorem dX3_slotOf_15 : decode cX3_slotOf 15 = .ok (.iaload, 1) := by decide +kernel
theorem dX3_slotOf_16 : decode cX3_slotOf 16 = .ok (.iload_n 1, 1) := by decide +kernel
theorem dX3_slotOf_17 : decode cX3_slotOf 17 = .ok (.if_icmp .ne 5, 3) := by decide +kernel
theorem dX3_slotOf_20 : decode cX3_slotOf 20 = .ok (.iload_n 2, 1) := by decide +kernel
theorem dX3_slotOf_21 : decode cX3_slotOf 21 = .ok (.ireturn, 1) := by decide +kernel
theorem dX3_slotOf_22 : decode cX3_slotOf 22 = .ok (.iinc 2 1, 3) := by decide +kernel
theorem dX3_slotOf_25 : decode cX3_slotOf 25 = .ok (.goto (-23), 3) := by decide +kernel
theorem dX3_slotOf_28 : decode cX3_slotOf 28 = .ok (.iconst (-1), 1) := by decide +kernel
theorem dX3_slotOf_29 : decode cX3_slotOf 29 = .ok (.ireturn, 1) := by decide +kernel
theorem dX3_takeKey_0 : decode cX3_takeKey 0 = .ok (.aload_n 0, 1) := by decide +kernel
theorem dX3_takeKey_1 : decode cX3_takeKey 1 = .ok (.iload_n 1, 1) := by decide +kernel
theorem dX3_takeKey_2 : decode cX3_takeKey 2 = .ok (.invokevirtual 147, 3) := by decide +kernel
theorem dX3_takeKey_5 : decode cX3_takeKey 5 = .ok (.iconst (-1), 1) := by decide +kernel
theorem dX3_takeKey_6 : decode cX3_takeKey 6 = .ok (.if_icmp .eq 5, 3) := by decide +kernel
theorem dX3_takeKey_9 : decode cX3_takeKey 9 = .ok (.iconst 1, 1) := by decide +kernel
theorem dX3_takeKey_10 : decode cX3_takeKey 10 = .ok (.ireturn, 1) := by decide +kernel
theorem dX3_takeKey_11 : decode cX3_takeKey 11 = .ok (.aload_n 0, 1) := by decide +kernel
theorem dX3_takeKey_12 : decode cX3_takeKey 12 = .ok (.getfield 23, 3) := by decide +kernel
theorem dX3_takeKey_15 : decode cX3_takeKey 15 = .ok (.bipush 10, 2) := by decide +kernel
theorem dX3_takeKey_17 : decode cX3_takeKey 17 = .ok (.if_icmp .lt 5, 3) := by decide +kernel
theorem dX3_takeKey_20 : decode cX3_takeKey 20 = .ok (.iconst 0, 1) := by decide +kernel
theorem dX3_takeKey_21 : decode cX3_takeKey 21 = .ok (.ireturn, 1) := by decide +kernel
theorem dX3_takeKey_22 : decode cX3_takeKey 22 = .ok (.aload_n 0, 1) := by decide +kernel
theorem dX3_takeKey_23 : decode cX3_takeKey 23 = .ok (.getfield 19, 3) := by decide +kernel
theorem dX3_takeKey_26 : decode cX3_takeKey 26 = .ok (.aload_n 0, 1) := by decide +kernel
theorem dX3_takeKey_27 : decode cX3_takeKey 27 = .ok (.getfield 23, 3) := by decide +kernel
theorem dX3_takeKey_30 : decode cX3_takeKey 30 = .ok (.iload_n 1, 1) := by decide +kernel
theorem dX3_takeKey_31 : decode cX3_takeKey 31 = .ok (.iastore, 1) := by decide +kernel
theorem dX3_takeKey_32 : decode cX3_takeKey 32 = .ok (.aload_n 0, 1) := by decide +kernel
theorem dX3_takeKey_33 : decode cX3_takeKey 33 = .ok (.dup, 1) := by decide +kernel
theorem dX3_takeKey_34 : decode cX3_takeKey 34 = .ok (.getfield 23, 3) := by decide +kernel
theorem dX3_takeKey_37 : decode cX3_takeKey 37 = .ok (.iconst 1, 1) := by decide +kernel
theorem dX3_takeKey_38 : decode cX3_takeKey 38 = .ok (.iadd, 1) := by decide +kernel
theorem dX3_takeKey_39 : decode cX3_takeKey 39 = .ok (.putfield 23, 3) := by decide +kernel
theorem dX3_takeKey_42 : decode cX3_takeKey 42 = .ok (.iconst 1, 1) := by decide +kernel
theorem dX3_takeKey_43 : decode cX3_takeKey 43 = .ok (.ireturn, 1) := by decide +kernel
theorem dX3_valueAt_0 : decode cX3_valueAt 0 = .ok (.aload_n 0, 1) := by decide +kernel
theorem dX3_valueAt_1 : decode cX3_valueAt 1 = .ok (.iload_n 2, 1) := by decide +kernel
theorem dX3_valueAt_2 : decode cX3_valueAt 2 = .ok (.invokevirtual 147, 3) := by decide +kernel
theorem dX3_valueAt_5 : decode cX3_valueAt 5 = .ok (.istore_n 3, 1) := by decide +kernel
theorem dX3_valueAt_6 : decode cX3_valueAt 6 = .ok (.iload_n 3, 1) := by decide +kernel
theorem dX3_valueAt_7 : decode cX3_valueAt 7 = .ok (.iconst (-1), 1) := by decide +kernel
theorem dX3_valueAt_8 : decode cX3_valueAt 8 = .ok (.if_icmp .ne 9, 3) := by decide +kernel
theorem dX3_valueAt_11 : decode cX3_valueAt 11 = .ok (.ldc2_w 107, 3) := by decide +kernel
theorem dX3_valueAt_14 : decode cX3_valueAt 14 = .ok (.goto 9, 3) := by decide +kernel
theorem dX3_valueAt_17 : decode cX3_valueAt 17 = .ok (.aload_n 1, 1) := by decide +kernel
theorem dX3_valueAt_18 : decode cX3_valueAt 18 = .ok (.getfield 113, 3) := by decide +kernel
theorem dX3_valueAt_21 : decode cX3_valueAt 21 = .ok (.iload_n 3, 1) := by decide +kernel
theorem dX3_valueAt_22 : decode cX3_valueAt 22 = .ok (.laload, 1) := by decide +kernel
theorem dX3_valueAt_23 : decode cX3_valueAt 23 = .ok (.lreturn, 1) := by decide +kernel
theorem dX3_sendFind_0 : decode cX3_sendFind 0 = .ok (.aload_n 0, 1) := by decide +kernel
theorem dX3_sendFind_1 : decode cX3_sendFind 1 = .ok (.getfield 29, 3) := by decide +kernel
theorem dX3_sendFind_4 : decode cX3_sendFind 4 = .ok (.iconst 1, 1) := by decide +kernel
theorem dX3_sendFind_5 : decode cX3_sendFind 5 = .ok (.iload_n 1, 1) := by decide +kernel
theorem dX3_sendFind_6 : decode cX3_sendFind 6 = .ok (.invokevirtual 58, 3) := by decide +kernel
theorem dX3_sendFind_9 : decode cX3_sendFind 9 = .ok (.astore 5, 2) := by decide +kernel
theorem dX3_sendFind_11 : decode cX3_sendFind 11 = .ok (.aload 5, 2) := by decide +kernel
theorem dX3_sendFind_13 : decode cX3_sendFind 13 = .ok (.iload_n 2, 1) := by decide +kernel
theorem dX3_sendFind_14 : decode cX3_sendFind 14 = .ok (.putfield 150, 3) := by decide +kernel
theorem dX3_sendFind_17 : decode cX3_sendFind 17 = .ok (.aload 5, 2) := by decide +kernel
theorem dX3_sendFind_19 : decode cX3_sendFind 19 = .ok (.iload_n 3, 1) := by decide +kernel
theorem dX3_sendFind_20 : decode cX3_sendFind 20 = .ok (.putfield 153, 3) := by decide +kernel
theorem dX3_sendFind_23 : decode cX3_sendFind 23 = .ok (.aload 5, 2) := by decide +kernel
theorem dX3_sendFind_25 : decode cX3_sendFind 25 = .ok (.iload 4, 2) := by decide +kernel
theorem dX3_sendFind_27 : decode cX3_sendFind 27 = .ok (.putfield 156, 3) := by decide +kernel
theorem dX3_sendFind_30 : decode cX3_sendFind 30 = .ok (.aload 5, 2) := by decide +kernel
theorem dX3_sendFind_32 : decode cX3_sendFind 32 = .ok (.areturn, 1) := by decide +kernel
theorem dX3_arrive_0 : decode cX3_arrive 0 = .ok (.aload_n 0, 1) := by decide +kernel
theorem dX3_arrive_1 : decode cX3_arrive 1 = .ok (.getfield 29, 3) := by decide +kernel
theorem dX3_arrive_4 : decode cX3_arrive 4 = .ok (.iload_n 1, 1) := by decide +kernel
theorem dX3_arrive_5 : decode cX3_arrive 5 = .ok (.invokevirtual 159, 3) := by decide +kernel
theorem dX3_arrive_8 : decode cX3_arrive 8 = .ok (.astore_n 2, 1) := by decide +kernel
theorem dX3_arrive_9 : decode cX3_arrive 9 = .ok (.aload_n 2, 1) := by decide +kernel
theorem dX3_arrive_10 : decode cX3_arrive 10 = .ok (.ifnonnull 5, 3) := by decide +kernel
theorem dX3_arrive_13 : decode cX3_arrive 13 = .ok (.iconst (-1), 1) := by decide +kernel
theorem dX3_arrive_14 : decode cX3_arrive 14 = .ok (.ireturn, 1) := by decide +kernel
theorem dX3_arrive_15 : decode cX3_arrive 15 = .ok (.aload_n 0, 1) := by decide +kernel
theorem dX3_arrive_16 : decode cX3_arrive 16 = .ok (.aload_n 2, 1) := by decide +kernel
theorem dX3_arrive_17 : decode cX3_arrive 17 = .ok (.getfield 98, 3) := by decide +kernel
theorem dX3_arrive_20 : decode cX3_arrive 20 = .ok (.invokevirtual 44, 3) := by decide +kernel
theorem dX3_arrive_23 : decode cX3_arrive 23 = .ok (.astore_n 3, 1) := by decide +kernel
theorem dX3_arrive_24 : decode cX3_arrive 24 = .ok (.aload_n 3, 1) := by decide +kernel
theorem dX3_arrive_25 : decode cX3_arrive 25 = .ok (.ifnonnull 8, 3) := by decide +kernel
theorem dX3_arrive_28 : decode cX3_arrive 28 = .ok (.aload_n 2, 1) := by decide +kernel
theorem dX3_arrive_29 : decode cX3_arrive 29 = .ok (.getfield 95, 3) := by decide +kernel
theorem dX3_arrive_32 : decode cX3_arrive 32 = .ok (.ireturn, 1) := by decide +kernel
theorem dX3_arrive_33 : decode cX3_arrive 33 = .ok (.aload_n 2, 1) := by decide +kernel
theorem dX3_arrive_34 : decode cX3_arrive 34 = .ok (.getfield 95, 3) := by decide +kernel
theorem dX3_arrive_37 : decode cX3_arrive 37 = .ok (.tableswitch 116 1 7 #[43, 52, 61, 70, 79, 98, 107], 43) := by decide +kernel
theorem dX3_arrive_80 : decode cX3_arrive 80 = .ok (.aload_n 0, 1) := by decide +kernel
theorem dX3_arrive_81 : decode cX3_arrive 81 = .ok (.aload_n 3, 1) := by decide +kernel
theorem dX3_arrive_82 : decode cX3_arrive 82 = .ok (.aload_n 2, 1) := by decide +kernel
theorem dX3_arrive_83 : decode cX3_arrive 83 = .ok (.invokevirtual 162, 3) := by decide +kernel
theorem dX3_arrive_86 : decode cX3_arrive 86 = .ok (.goto 73, 3) := by decide +kernel
theorem dX3_arrive_89 : decode cX3_arrive 89 = .ok (.aload_n 0, 1) := by decide +kernel
theorem dX3_arrive_90 : decode cX3_arrive 90 = .ok (.aload_n 3, 1) := by decide +kernel
theorem dX3_arrive_91 : decode cX3_arrive 91 = .ok (.aload_n 2, 1) := by decide +kernel
theorem dX3_arrive_92 : decode cX3_arrive 92 = .ok (.invokevirtual 166, 3) := by decide +kernel
theorem dX3_arrive_95 : decode cX3_arrive 95 = .ok (.goto 64, 3) := by decide +kernel
theorem dX3_arrive_98 : decode cX3_arrive 98 = .ok (.aload_n 0, 1) := by decide +kernel
theorem dX3_arrive_99 : decode cX3_arrive 99 = .ok (.aload_n 3, 1) := by decide +kernel
theorem dX3_arrive_100 : decode cX3_arrive 100 = .ok (.aload_n 2, 1) := by decide +kernel
theorem dX3_arrive_101 : decode cX3_arrive 101 = .ok (.invokevirtual 169, 3) := by decide +kernel
theorem dX3_arrive_104 : decode cX3_arrive 104 = .ok (.goto 55, 3) := by decide +kernel
theorem dX3_arrive_107 : decode cX3_arrive 107 = .ok (.aload_n 0, 1) := by decide +kernel
theorem dX3_arrive_108 : decode cX3_arrive 108 = .ok (.aload_n 3, 1) := by decide +kernel
theorem dX3_arrive_109 : decode cX3_arrive 109 = .ok (.aload_n 2, 1) := by decide +kernel
theorem dX3_arrive_110 : decode cX3_arrive 110 = .ok (.invokevirtual 172, 3) := by decide +kernel
theorem dX3_arrive_113 : decode cX3_arrive 113 = .ok (.goto 46, 3) := by decide +kernel
theorem dX3_arrive_116 : decode cX3_arrive 116 = .ok (.aload_n 3, 1) := by decide +kernel
theorem dX3_arrive_117 : decode cX3_arrive 117 = .ok (.aload_n 2, 1) := by decide +kernel
theorem dX3_arrive_118 : decode cX3_arrive 118 = .ok (.getfield 80, 3) := by decide +kernel
theorem dX3_arrive_121 : decode cX3_arrive 121 = .ok (.putfield 119, 3) := by decide +kernel
theorem dX3_arrive_124 : decode cX3_arrive 124 = .ok (.aload_n 3, 1) := by decide +kernel
theorem dX3_arrive_125 : decode cX3_arrive 125 = .ok (.aload_n 2, 1) := by decide +kernel
theorem dX3_arrive_126 : decode cX3_arrive 126 = .ok (.getfield 175, 3) := by decide +kernel
theorem dX3_arrive_129 : decode cX3_arrive 129 = .ok (.putfield 122, 3) := by decide +kernel
theorem dX3_arrive_132 : decode cX3_arrive 132 = .ok (.goto 27, 3) := by decide +kernel
theorem dX3_arrive_135 : decode cX3_arrive 135 = .ok (.aload_n 0, 1) := by decide +kernel
theorem dX3_arrive_136 : decode cX3_arrive 136 = .ok (.aload_n 3, 1) := by decide +kernel
theorem dX3_arrive_137 : decode cX3_arrive 137 = .ok (.aload_n 2, 1) := by decide +kernel
theorem dX3_arrive_138 : decode cX3_arrive 138 = .ok (.invokevirtual 176, 3) := by decide +kernel
theorem dX3_arrive_141 : decode cX3_arrive 141 = .ok (.goto 18, 3) := by decide +kernel
theorem dX3_arrive_144 : decode cX3_arrive 144 = .ok (.aload_n 0, 1) := by decide +kernel
theorem dX3_arrive_145 : decode cX3_arrive 145 = .ok (.aload_n 3, 1) := by decide +kernel
theorem dX3_arrive_146 : decode cX3_arrive 146 = .ok (.aload_n 2, 1) := by decide +kernel
theorem dX3_arrive_147 : decode cX3_arrive 147 = .ok (.invokevirtual 179, 3) := by decide +kernel
theorem dX3_arrive_150 : decode cX3_arrive 150 = .ok (.goto 9, 3) := by decide +kernel
theorem dX3_arrive_153 : decode cX3_arrive 153 = .ok (.aload_n 0, 1) := by decide +kernel
theorem dX3_arrive_154 : decode cX3_arrive 154 = .ok (.aload_n 3, 1) := by decide +kernel
theorem dX3_arrive_155 : decode cX3_arrive 155 = .ok (.aload_n 2, 1) := by decide +kernel
theorem dX3_arrive_156 : decode cX3_arrive 156 = .ok (.invokevirtual 182, 3) := by decide +kernel
theorem dX3_arrive_159 : decode cX3_arrive 159 = .ok (.aload_n 2, 1) := by decide +kernel
theorem dX3_arrive_160 : decode cX3_arrive 160 = .ok (.getfield 95, 3) := by decide +kernel
theorem dX3_arrive_163 : decode cX3_arrive 163 = .ok (.ireturn, 1) := by decide +kernel
theorem dX3_findArrives_0 : decode cX3_findArrives 0 = .ok (.aload_n 1, 1) := by decide +kernel
theorem dX3_findArrives_1 : decode cX3_findArrives 1 = .ok (.getfield 135, 3) := by decide +kernel
theorem dX3_findArrives_4 : decode cX3_findArrives 4 = .ok (.aload_n 1, 1) := by decide +kernel
theorem dX3_findArrives_5 : decode cX3_findArrives 5 = .ok (.getfield 41, 3) := by decide +kernel
theorem dX3_findArrives_8 : decode cX3_findArrives 8 = .ok (.aload_n 2, 1) := by decide +kernel
theorem dX3_findArrives_9 : decode cX3_findArrives 9 = .ok (.getfield 156, 3) := by decide +kernel
theorem dX3_findArrives_12 : decode cX3_findArrives 12 = .ok (.invokestatic 185, 3) := by decide +kernel
theorem dX3_findArrives_15 : decode cX3_findArrives 15 = .ok (.ifCond .ne 12, 3) := by decide +kernel
theorem dX3_findArrives_18 : decode cX3_findArrives 18 = .ok (.aload_n 0, 1) := by decide +kernel
theorem dX3_findArrives_19 : decode cX3_findArrives 19 = .ok (.aload_n 1, 1) := by decide +kernel
theorem dX3_findArrives_20 : decode cX3_findArrives 20 = .ok (.aload_n 2, 1) := by decide +kernel
theorem dX3_findArrives_21 : decode cX3_findArrives 21 = .ok (.invokevirtual 189, 3) := by decide +kernel
theorem dX3_findArrives_24 : decode cX3_findArrives 24 = .ok (.goto 136, 3) := by decide +kernel
theorem dX3_findArrives_27 : decode cX3_findArrives 27 = .ok (.aload_n 2, 1) := by decide +kernel
theorem dX3_findArrives_28 : decode cX3_findArrives 28 = .ok (.getfield 153, 3) := by decide +kernel
theorem dX3_findArrives_31 : decode cX3_findArrives 31 = .ok (.iconst 3, 1) := by decide +kernel
theorem dX3_findArrives_32 : decode cX3_findArrives 32 = .ok (.if_icmp .ne 35, 3) := by decide +kernel
theorem dX3_findArrives_35 : decode cX3_findArrives 35 = .ok (.aload_n 0, 1) := by decide +kernel
theorem dX3_findArrives_36 : decode cX3_findArrives 36 = .ok (.getfield 29, 3) := by decide +kernel
theorem dX3_findArrives_39 : decode cX3_findArrives 39 = .ok (.iconst 3, 1) := by decide +kernel
theorem dX3_findArrives_40 : decode cX3_findArrives 40 = .ok (.aload_n 1, 1) := by decide +kernel
theorem dX3_findArrives_41 : decode cX3_findArrives 41 = .ok (.getfield 41, 3) := by decide +kernel
theorem dX3_findArrives_44 : decode cX3_findArrives 44 = .ok (.invokevirtual 58, 3) := by decide +kernel
theorem dX3_findArrives_47 : decode cX3_findArrives 47 = .ok (.astore_n 3, 1) := by decide +kernel
theorem dX3_findArrives_48 : decode cX3_findArrives 48 = .ok (.aload_n 3, 1) := by decide +kernel
theorem dX3_findArrives_49 : decode cX3_findArrives 49 = .ok (.aload_n 2, 1) := by decide +kernel
theorem dX3_findArrives_50 : decode cX3_findArrives 50 = .ok (.getfield 156, 3) := by decide +kernel
theorem dX3_findArrives_53 : decode cX3_findArrives 53 = .ok (.putfield 156, 3) := by decide +kernel
theorem dX3_findArrives_56 : decode cX3_findArrives 56 = .ok (.aload_n 3, 1) := by decide +kernel
theorem dX3_findArrives_57 : decode cX3_findArrives 57 = .ok (.aload_n 2, 1) := by decide +kernel
theorem dX3_findArrives_58 : decode cX3_findArrives 58 = .ok (.getfield 80, 3) := by decide +kernel
theorem dX3_findArrives_61 : decode cX3_findArrives 61 = .ok (.putfield 80, 3) := by decide +kernel
theorem dX3_findArrives_64 : decode cX3_findArrives 64 = .ok (.goto 96, 3) := by decide +kernel
theorem dX3_findArrives_67 : decode cX3_findArrives 67 = .ok (.aload_n 2, 1) := by decide +kernel
theorem dX3_findArrives_68 : decode cX3_findArrives 68 = .ok (.getfield 153, 3) := by decide +kernel
theorem dX3_findArrives_71 : decode cX3_findArrives 71 = .ok (.iconst 4, 1) := by decide +kernel
theorem dX3_findArrives_72 : decode cX3_findArrives 72 = .ok (.if_icmp .ne 43, 3) := by decide +kernel
theorem dX3_findArrives_75 : decode cX3_findArrives 75 = .ok (.aload_n 0, 1) := by decide +kernel
theorem dX3_findArrives_76 : decode cX3_findArrives 76 = .ok (.getfield 29, 3) := by decide +kernel
theorem dX3_findArrives_79 : decode cX3_findArrives 79 = .ok (.iconst 4, 1) := by decide +kernel
theorem dX3_findArrives_80 : decode cX3_findArrives 80 = .ok (.aload_n 1, 1) := by decide +kernel
theorem dX3_findArrives_81 : decode cX3_findArrives 81 = .ok (.getfield 41, 3) := by decide +kernel
theorem dX3_findArrives_84 : decode cX3_findArrives 84 = .ok (.invokevirtual 58, 3) := by decide +kernel
theorem dX3_findArrives_87 : decode cX3_findArrives 87 = .ok (.astore_n 3, 1) := by decide +kernel
theorem dX3_findArrives_88 : decode cX3_findArrives 88 = .ok (.aload_n 3, 1) := by decide +kernel
theorem dX3_findArrives_89 : decode cX3_findArrives 89 = .ok (.aload_n 2, 1) := by decide +kernel
theorem dX3_findArrives_90 : decode cX3_findArrives 90 = .ok (.getfield 156, 3) := by decide +kernel
theorem dX3_findArrives_93 : decode cX3_findArrives 93 = .ok (.putfield 156, 3) := by decide +kernel
theorem dX3_findArrives_96 : decode cX3_findArrives 96 = .ok (.aload_n 3, 1) := by decide +kernel
theorem dX3_findArrives_97 : decode cX3_findArrives 97 = .ok (.aload_n 2, 1) := by decide +kernel
theorem dX3_findArrives_98 : decode cX3_findArrives 98 = .ok (.getfield 150, 3) := by decide +kernel
theorem dX3_findArrives_101 : decode cX3_findArrives 101 = .ok (.putfield 150, 3) := by decide +kernel
theorem dX3_findArrives_104 : decode cX3_findArrives 104 = .ok (.aload_n 3, 1) := by decide +kernel
theorem dX3_findArrives_105 : decode cX3_findArrives 105 = .ok (.aload_n 2, 1) := by decide +kernel
theorem dX3_findArrives_106 : decode cX3_findArrives 106 = .ok (.getfield 175, 3) := by decide +kernel
theorem dX3_findArrives_109 : decode cX3_findArrives 109 = .ok (.putfield 175, 3) := by decide +kernel
theorem dX3_findArrives_112 : decode cX3_findArrives 112 = .ok (.goto 48, 3) := by decide +kernel
theorem dX3_findArrives_115 : decode cX3_findArrives 115 = .ok (.aload_n 0, 1) := by decide +kernel
theorem dX3_findArrives_116 : decode cX3_findArrives 116 = .ok (.getfield 29, 3) := by decide +kernel
theorem dX3_findArrives_119 : decode cX3_findArrives 119 = .ok (.iconst 2, 1) := by decide +kernel
theorem dX3_findArrives_120 : decode cX3_findArrives 120 = .ok (.aload_n 2, 1) := by decide +kernel
theorem dX3_findArrives_121 : decode cX3_findArrives 121 = .ok (.getfield 150, 3) := by decide +kernel
theorem dX3_findArrives_124 : decode cX3_findArrives 124 = .ok (.invokevirtual 58, 3) := by decide +kernel
theorem dX3_findArrives_127 : decode cX3_findArrives 127 = .ok (.astore_n 3, 1) := by decide +kernel
theorem dX3_findArrives_128 : decode cX3_findArrives 128 = .ok (.aload_n 3, 1) := by decide +kernel
theorem dX3_findArrives_129 : decode cX3_findArrives 129 = .ok (.aload_n 2, 1) := by decide +kernel
theorem dX3_findArrives_130 : decode cX3_findArrives 130 = .ok (.getfield 153, 3) := by decide +kernel
theorem dX3_findArrives_133 : decode cX3_findArrives 133 = .ok (.putfield 153, 3) := by decide +kernel
theorem dX3_findArrives_136 : decode cX3_findArrives 136 = .ok (.aload_n 3, 1) := by decide +kernel
theorem dX3_findArrives_137 : decode cX3_findArrives 137 = .ok (.aload_n 2, 1) := by decide +kernel
theorem dX3_findArrives_138 : decode cX3_findArrives 138 = .ok (.getfield 74, 3) := by decide +kernel
theorem dX3_findArrives_141 : decode cX3_findArrives 141 = .ok (.putfield 74, 3) := by decide +kernel
theorem dX3_findArrives_144 : decode cX3_findArrives 144 = .ok (.aload_n 3, 1) := by decide +kernel
theorem dX3_findArrives_145 : decode cX3_findArrives 145 = .ok (.aload_n 1, 1) := by decide +kernel
theorem dX3_findArrives_146 : decode cX3_findArrives 146 = .ok (.getfield 41, 3) := by decide +kernel
theorem dX3_findArrives_149 : decode cX3_findArrives 149 = .ok (.putfield 62, 3) := by decide +kernel
theorem dX3_findArrives_152 : decode cX3_findArrives 152 = .ok (.aload_n 3, 1) := by decide +kernel
theorem dX3_findArrives_153 : decode cX3_findArrives 153 = .ok (.aload_n 2, 1) := by decide +kernel
theorem dX3_findArrives_154 : decode cX3_findArrives 154 = .ok (.getfield 175, 3) := by decide +kernel
theorem dX3_findArrives_157 : decode cX3_findArrives 157 = .ok (.putfield 175, 3) := by decide +kernel
theorem dX3_findArrives_160 : decode cX3_findArrives 160 = .ok (.return_, 1) := by decide +kernel
theorem dX3_passOn_0 : decode cX3_passOn 0 = .ok (.aload_n 0, 1) := by decide +kernel
theorem dX3_passOn_1 : decode cX3_passOn 1 = .ok (.aload_n 1, 1) := by decide +kernel
theorem dX3_passOn_2 : decode cX3_passOn 2 = .ok (.aload_n 2, 1) := by decide +kernel
theorem dX3_passOn_3 : decode cX3_passOn 3 = .ok (.getfield 156, 3) := by decide +kernel
theorem dX3_passOn_6 : decode cX3_passOn 6 = .ok (.invokestatic 192, 3) := by decide +kernel
theorem dX3_passOn_9 : decode cX3_passOn 9 = .ok (.aload_n 2, 1) := by decide +kernel
theorem dX3_passOn_10 : decode cX3_passOn 10 = .ok (.getfield 150, 3) := by decide +kernel
theorem dX3_passOn_13 : decode cX3_passOn 13 = .ok (.aload_n 2, 1) := by decide +kernel
theorem dX3_passOn_14 : decode cX3_passOn 14 = .ok (.getfield 153, 3) := by decide +kernel
theorem dX3_passOn_17 : decode cX3_passOn 17 = .ok (.aload_n 2, 1) := by decide +kernel
theorem dX3_passOn_18 : decode cX3_passOn 18 = .ok (.getfield 156, 3) := by decide +kernel
theorem dX3_passOn_21 : decode cX3_passOn 21 = .ok (.invokevirtual 54, 3) := by decide +kernel
theorem dX3_passOn_24 : decode cX3_passOn 24 = .ok (.astore_n 3, 1) := by decide +kernel
theorem dX3_passOn_25 : decode cX3_passOn 25 = .ok (.aload_n 3, 1) := by decide +kernel
theorem dX3_passOn_26 : decode cX3_passOn 26 = .ok (.aload_n 2, 1) := by decide +kernel
theorem dX3_passOn_27 : decode cX3_passOn 27 = .ok (.getfield 74, 3) := by decide +kernel
theorem dX3_passOn_30 : decode cX3_passOn 30 = .ok (.putfield 74, 3) := by decide +kernel
theorem dX3_passOn_33 : decode cX3_passOn 33 = .ok (.aload_n 3, 1) := by decide +kernel
theorem dX3_passOn_34 : decode cX3_passOn 34 = .ok (.aload_n 2, 1) := by decide +kernel
theorem dX3_passOn_35 : decode cX3_passOn 35 = .ok (.getfield 80, 3) := by decide +kernel
theorem dX3_passOn_38 : decode cX3_passOn 38 = .ok (.putfield 80, 3) := by decide +kernel
theorem dX3_passOn_41 : decode cX3_passOn 41 = .ok (.aload_n 3, 1) := by decide +kernel
theorem dX3_passOn_42 : decode cX3_passOn 42 = .ok (.aload_n 2, 1) := by decide +kernel
theorem dX3_passOn_43 : decode cX3_passOn 43 = .ok (.getfield 175, 3) := by decide +kernel
theorem dX3_passOn_46 : decode cX3_passOn 46 = .ok (.iconst 1, 1) := by decide +kernel
theorem dX3_passOn_47 : decode cX3_passOn 47 = .ok (.iadd, 1) := by decide +kernel
theorem dX3_passOn_48 : decode cX3_passOn 48 = .ok (.putfield 175, 3) := by decide +kernel
theorem dX3_passOn_51 : decode cX3_passOn 51 = .ok (.return_, 1) := by decide +kernel
theorem dX3_nextTowards_0 : decode cX3_nextTowards 0 = .ok (.bipush 7, 2) := by decide +kernel
theorem dX3_nextTowards_2 : decode cX3_nextTowards 2 = .ok (.istore_n 2, 1) := by decide +kernel
theorem dX3_nextTowards_3 : decode cX3_nextTowards 3 = .ok (.iload_n 2, 1) := by decide +kernel
theorem dX3_nextTowards_4 : decode cX3_nextTowards 4 = .ok (.ifCond .lt 35, 3) := by decide +kernel
theorem dX3_nextTowards_7 : decode cX3_nextTowards 7 = .ok (.aload_n 0, 1) := by decide +kernel
theorem dX3_nextTowards_8 : decode cX3_nextTowards 8 = .ok (.getfield 104, 3) := by decide +kernel
theorem dX3_nextTowards_11 : decode cX3_nextTowards 11 = .ok (.iload_n 2, 1) := by decide +kernel
theorem dX3_nextTowards_12 : decode cX3_nextTowards 12 = .ok (.iaload, 1) := by decide +kernel
theorem dX3_nextTowards_13 : decode cX3_nextTowards 13 = .ok (.istore_n 3, 1) := by decide +kernel
theorem dX3_nextTowards_14 : decode cX3_nextTowards 14 = .ok (.iload_n 3, 1) := by decide +kernel
theorem dX3_nextTowards_15 : decode cX3_nextTowards 15 = .ok (.iconst (-1), 1) := by decide +kernel
theorem dX3_nextTowards_16 : decode cX3_nextTowards 16 = .ok (.if_icmp .eq 17, 3) := by decide +kernel
theorem dX3_nextTowards_19 : decode cX3_nextTowards 19 = .ok (.aload_n 0, 1) := by decide +kernel
theorem dX3_nextTowards_20 : decode cX3_nextTowards 20 = .ok (.getfield 135, 3) := by decide +kernel
theorem dX3_nextTowards_23 : decode cX3_nextTowards 23 = .ok (.iload_n 1, 1) := by decide +kernel
theorem dX3_nextTowards_24 : decode cX3_nextTowards 24 = .ok (.iload_n 3, 1) := by decide +kernel
theorem dX3_nextTowards_25 : decode cX3_nextTowards 25 = .ok (.invokestatic 196, 3) := by decide +kernel
theorem dX3_nextTowards_28 : decode cX3_nextTowards 28 = .ok (.ifCond .eq 5, 3) := by decide +kernel
theorem dX3_nextTowards_31 : decode cX3_nextTowards 31 = .ok (.iload_n 3, 1) := by decide +kernel
theorem dX3_nextTowards_32 : decode cX3_nextTowards 32 = .ok (.ireturn, 1) := by decide +kernel
theorem dX3_nextTowards_33 : decode cX3_nextTowards 33 = .ok (.iinc 2 (-1), 3) := by decide +kernel
theorem dX3_nextTowards_36 : decode cX3_nextTowards 36 = .ok (.goto (-33), 3) := by decide +kernel
theorem dX3_nextTowards_39 : decode cX3_nextTowards 39 = .ok (.aload_n 0, 1) := by decide +kernel
theorem dX3_nextTowards_40 : decode cX3_nextTowards 40 = .ok (.getfield 41, 3) := by decide +kernel
theorem dX3_nextTowards_43 : decode cX3_nextTowards 43 = .ok (.ireturn, 1) := by decide +kernel
theorem dX3_foundArrives_0 : decode cX3_foundArrives 0 = .ok (.aload_n 2, 1) := by decide +kernel
theorem dX3_foundArrives_1 : decode cX3_foundArrives 1 = .ok (.getfield 153, 3) := by decide +kernel
theorem dX3_foundArrives_4 : decode cX3_foundArrives 4 = .ok (.iconst 1, 1) := by decide +kernel
theorem dX3_foundArrives_5 : decode cX3_foundArrives 5 = .ok (.if_icmp .ne 14, 3) := by decide +kernel
theorem dX3_foundArrives_8 : decode cX3_foundArrives 8 = .ok (.aload_n 1, 1) := by decide +kernel
theorem dX3_foundArrives_9 : decode cX3_foundArrives 9 = .ok (.aload_n 2, 1) := by decide +kernel
theorem dX3_foundArrives_10 : decode cX3_foundArrives 10 = .ok (.getfield 62, 3) := by decide +kernel
theorem dX3_foundArrives_13 : decode cX3_foundArrives 13 = .ok (.putfield 41, 3) := by decide +kernel
theorem dX3_foundArrives_16 : decode cX3_foundArrives 16 = .ok (.goto 26, 3) := by decide +kernel
theorem dX3_foundArrives_19 : decode cX3_foundArrives 19 = .ok (.aload_n 2, 1) := by decide +kernel
theorem dX3_foundArrives_20 : decode cX3_foundArrives 20 = .ok (.getfield 74, 3) := by decide +kernel
theorem dX3_foundArrives_23 : decode cX3_foundArrives 23 = .ok (.invokestatic 67, 3) := by decide +kernel
theorem dX3_foundArrives_26 : decode cX3_foundArrives 26 = .ok (.ifCond .eq 16, 3) := by decide +kernel
theorem dX3_foundArrives_29 : decode cX3_foundArrives 29 = .ok (.aload_n 1, 1) := by decide +kernel
theorem dX3_foundArrives_30 : decode cX3_foundArrives 30 = .ok (.getfield 104, 3) := by decide +kernel
theorem dX3_foundArrives_33 : decode cX3_foundArrives 33 = .ok (.aload_n 2, 1) := by decide +kernel
theorem dX3_foundArrives_34 : decode cX3_foundArrives 34 = .ok (.getfield 74, 3) := by decide +kernel
theorem dX3_foundArrives_37 : decode cX3_foundArrives 37 = .ok (.aload_n 2, 1) := by decide +kernel
theorem dX3_foundArrives_38 : decode cX3_foundArrives 38 = .ok (.getfield 62, 3) := by decide +kernel
theorem dX3_foundArrives_41 : decode cX3_foundArrives 41 = .ok (.iastore, 1) := by decide +kernel
theorem dX3_foundArrives_42 : decode cX3_foundArrives 42 = .ok (.aload_n 1, 1) := by decide +kernel
theorem dX3_foundArrives_43 : decode cX3_foundArrives 43 = .ok (.aload_n 2, 1) := by decide +kernel
theorem dX3_foundArrives_44 : decode cX3_foundArrives 44 = .ok (.getfield 175, 3) := by decide +kernel
theorem dX3_foundArrives_47 : decode cX3_foundArrives 47 = .ok (.putfield 122, 3) := by decide +kernel
theorem dX3_foundArrives_50 : decode cX3_foundArrives 50 = .ok (.return_, 1) := by decide +kernel
theorem dX3_storeArrives_0 : decode cX3_storeArrives 0 = .ok (.aload_n 0, 1) := by decide +kernel
theorem dX3_storeArrives_1 : decode cX3_storeArrives 1 = .ok (.aload_n 2, 1) := by decide +kernel
theorem dX3_storeArrives_2 : decode cX3_storeArrives 2 = .ok (.getfield 156, 3) := by decide +kernel
theorem dX3_storeArrives_5 : decode cX3_storeArrives 5 = .ok (.invokevirtual 147, 3) := by decide +kernel
theorem dX3_storeArrives_8 : decode cX3_storeArrives 8 = .ok (.istore_n 3, 1) := by decide +kernel
theorem dX3_storeArrives_9 : decode cX3_storeArrives 9 = .ok (.iload_n 3, 1) := by decide +kernel
theorem dX3_storeArrives_10 : decode cX3_storeArrives 10 = .ok (.iconst (-1), 1) := by decide +kernel
theorem dX3_storeArrives_11 : decode cX3_storeArrives 11 = .ok (.if_icmp .eq 13, 3) := by decide +kernel
theorem dX3_storeArrives_14 : decode cX3_storeArrives 14 = .ok (.aload_n 1, 1) := by decide +kernel
theorem dX3_storeArrives_15 : decode cX3_storeArrives 15 = .ok (.getfield 113, 3) := by decide +kernel
theorem dX3_storeArrives_18 : decode cX3_storeArrives 18 = .ok (.iload_n 3, 1) := by decide +kernel
theorem dX3_storeArrives_19 : decode cX3_storeArrives 19 = .ok (.aload_n 2, 1) := by decide +kernel
theorem dX3_storeArrives_20 : decode cX3_storeArrives 20 = .ok (.getfield 80, 3) := by decide +kernel
theorem dX3_storeArrives_23 : decode cX3_storeArrives 23 = .ok (.lastore, 1) := by decide +kernel
theorem dX3_storeArrives_24 : decode cX3_storeArrives 24 = .ok (.return_, 1) := by decide +kernel
theorem dX3_fetchArrives_0 : decode cX3_fetchArrives 0 = .ok (.aload_n 0, 1) := by decide +kernel
theorem dX3_fetchArrives_1 : decode cX3_fetchArrives 1 = .ok (.getfield 29, 3) := by decide +kernel
theorem dX3_fetchArrives_4 : decode cX3_fetchArrives 4 = .ok (.iconst 5, 1) := by decide +kernel
theorem dX3_fetchArrives_5 : decode cX3_fetchArrives 5 = .ok (.aload_n 2, 1) := by decide +kernel
theorem dX3_fetchArrives_6 : decode cX3_fetchArrives 6 = .ok (.getfield 150, 3) := by decide +kernel
theorem dX3_fetchArrives_9 : decode cX3_fetchArrives 9 = .ok (.invokevirtual 58, 3) := by decide +kernel
theorem dX3_fetchArrives_12 : decode cX3_fetchArrives 12 = .ok (.astore_n 3, 1) := by decide +kernel
theorem dX3_fetchArrives_13 : decode cX3_fetchArrives 13 = .ok (.aload_n 3, 1) := by decide +kernel
theorem dX3_fetchArrives_14 : decode cX3_fetchArrives 14 = .ok (.aload_n 0, 1) := by decide +kernel
theorem dX3_fetchArrives_15 : decode cX3_fetchArrives 15 = .ok (.aload_n 1, 1) := by decide +kernel
theorem dX3_fetchArrives_16 : decode cX3_fetchArrives 16 = .ok (.aload_n 2, 1) := by decide +kernel
theorem dX3_fetchArrives_17 : decode cX3_fetchArrives 17 = .ok (.getfield 156, 3) := by decide +kernel
theorem dX3_fetchArrives_20 : decode cX3_fetchArrives 20 = .ok (.invokevirtual 109, 3) := by decide +kernel
theorem dX3_fetchArrives_23 : decode cX3_fetchArrives 23 = .ok (.putfield 80, 3) := by decide +kernel
theorem dX3_fetchArrives_26 : decode cX3_fetchArrives 26 = .ok (.aload_n 3, 1) := by decide +kernel
theorem dX3_fetchArrives_27 : decode cX3_fetchArrives 27 = .ok (.aload_n 2, 1) := by decide +kernel
theorem dX3_fetchArrives_28 : decode cX3_fetchArrives 28 = .ok (.getfield 175, 3) := by decide +kernel
theorem dX3_fetchArrives_31 : decode cX3_fetchArrives 31 = .ok (.putfield 175, 3) := by decide +kernel
theorem dX3_fetchArrives_34 : decode cX3_fetchArrives 34 = .ok (.return_, 1) := by decide +kernel
theorem dX3_askArrives_0 : decode cX3_askArrives 0 = .ok (.aload_n 0, 1) := by decide +kernel
theorem dX3_askArrives_1 : decode cX3_askArrives 1 = .ok (.getfield 29, 3) := by decide +kernel
theorem dX3_askArrives_4 : decode cX3_askArrives 4 = .ok (.bipush 7, 2) := by decide +kernel
theorem dX3_askArrives_6 : decode cX3_askArrives 6 = .ok (.aload_n 2, 1) := by decide +kernel
theorem dX3_askArrives_7 : decode cX3_askArrives 7 = .ok (.getfield 62, 3) := by decide +kernel
theorem dX3_askArrives_10 : decode cX3_askArrives 10 = .ok (.invokevirtual 58, 3) := by decide +kernel
theorem dX3_askArrives_13 : decode cX3_askArrives 13 = .ok (.astore_n 3, 1) := by decide +kernel
theorem dX3_askArrives_14 : decode cX3_askArrives 14 = .ok (.aload_n 3, 1) := by decide +kernel
theorem dX3_askArrives_15 : decode cX3_askArrives 15 = .ok (.aload_n 1, 1) := by decide +kernel
theorem dX3_askArrives_16 : decode cX3_askArrives 16 = .ok (.getfield 101, 3) := by decide +kernel
theorem dX3_askArrives_19 : decode cX3_askArrives 19 = .ok (.putfield 62, 3) := by decide +kernel
theorem dX3_askArrives_22 : decode cX3_askArrives 22 = .ok (.return_, 1) := by decide +kernel
theorem dX3_tellArrives_0 : decode cX3_tellArrives 0 = .ok (.aload_n 2, 1) := by decide +kernel
theorem dX3_tellArrives_1 : decode cX3_tellArrives 1 = .ok (.getfield 62, 3) := by decide +kernel
theorem dX3_tellArrives_4 : decode cX3_tellArrives 4 = .ok (.iconst (-1), 1) := by decide +kernel
theorem dX3_tellArrives_5 : decode cX3_tellArrives 5 = .ok (.if_icmp .eq 29, 3) := by decide +kernel
theorem dX3_tellArrives_8 : decode cX3_tellArrives 8 = .ok (.aload_n 1, 1) := by decide +kernel
theorem dX3_tellArrives_9 : decode cX3_tellArrives 9 = .ok (.getfield 135, 3) := by decide +kernel
theorem dX3_tellArrives_12 : decode cX3_tellArrives 12 = .ok (.aload_n 1, 1) := by decide +kernel
theorem dX3_tellArrives_13 : decode cX3_tellArrives 13 = .ok (.getfield 41, 3) := by decide +kernel
theorem dX3_tellArrives_16 : decode cX3_tellArrives 16 = .ok (.aload_n 2, 1) := by decide +kernel
theorem dX3_tellArrives_17 : decode cX3_tellArrives 17 = .ok (.getfield 62, 3) := by decide +kernel
theorem dX3_tellArrives_20 : decode cX3_tellArrives 20 = .ok (.invokestatic 196, 3) := by decide +kernel
theorem dX3_tellArrives_23 : decode cX3_tellArrives 23 = .ok (.ifCond .eq 11, 3) := by decide +kernel
theorem dX3_tellArrives_26 : decode cX3_tellArrives 26 = .ok (.aload_n 1, 1) := by decide +kernel
theorem dX3_tellArrives_27 : decode cX3_tellArrives 27 = .ok (.aload_n 2, 1) := by decide +kernel
theorem dX3_tellArrives_28 : decode cX3_tellArrives 28 = .ok (.getfield 62, 3) := by decide +kernel
theorem dX3_tellArrives_31 : decode cX3_tellArrives 31 = .ok (.putfield 41, 3) := by decide +kernel
theorem dX3_tellArrives_34 : decode cX3_tellArrives 34 = .ok (.aload_n 0, 1) := by decide +kernel
theorem dX3_tellArrives_35 : decode cX3_tellArrives 35 = .ok (.getfield 29, 3) := by decide +kernel
theorem dX3_tellArrives_38 : decode cX3_tellArrives 38 = .ok (.bipush 8, 2) := by decide +kernel
theorem dX3_tellArrives_40 : decode cX3_tellArrives 40 = .ok (.aload_n 1, 1) := by decide +kernel
theorem dX3_tellArrives_41 : decode cX3_tellArrives 41 = .ok (.getfield 41, 3) := by decide +kernel
theorem dX3_tellArrives_44 : decode cX3_tellArrives 44 = .ok (.invokevirtual 58, 3) := by decide +kernel
theorem dX3_tellArrives_47 : decode cX3_tellArrives 47 = .ok (.astore_n 3, 1) := by decide +kernel
theorem dX3_tellArrives_48 : decode cX3_tellArrives 48 = .ok (.aload_n 3, 1) := by decide +kernel
theorem dX3_tellArrives_49 : decode cX3_tellArrives 49 = .ok (.aload_n 1, 1) := by decide +kernel
theorem dX3_tellArrives_50 : decode cX3_tellArrives 50 = .ok (.getfield 135, 3) := by decide +kernel
theorem dX3_tellArrives_53 : decode cX3_tellArrives 53 = .ok (.putfield 62, 3) := by decide +kernel
theorem dX3_tellArrives_56 : decode cX3_tellArrives 56 = .ok (.return_, 1) := by decide +kernel
theorem dX3_notifyArrives_0 : decode cX3_notifyArrives 0 = .ok (.aload_n 1, 1) := by decide +kernel
theorem dX3_notifyArrives_1 : decode cX3_notifyArrives 1 = .ok (.getfield 101, 3) := by decide +kernel
theorem dX3_notifyArrives_4 : decode cX3_notifyArrives 4 = .ok (.iconst (-1), 1) := by decide +kernel
theorem dX3_notifyArrives_5 : decode cX3_notifyArrives 5 = .ok (.if_icmp .eq 21, 3) := by decide +kernel
theorem dX3_notifyArrives_8 : decode cX3_notifyArrives 8 = .ok (.aload_n 1, 1) := by decide +kernel
theorem dX3_notifyArrives_9 : decode cX3_notifyArrives 9 = .ok (.getfield 101, 3) := by decide +kernel
theorem dX3_notifyArrives_12 : decode cX3_notifyArrives 12 = .ok (.aload_n 1, 1) := by decide +kernel
theorem dX3_notifyArrives_13 : decode cX3_notifyArrives 13 = .ok (.getfield 135, 3) := by decide +kernel
theorem dX3_notifyArrives_16 : decode cX3_notifyArrives 16 = .ok (.aload_n 2, 1) := by decide +kernel
theorem dX3_notifyArrives_17 : decode cX3_notifyArrives 17 = .ok (.getfield 62, 3) := by decide +kernel
theorem dX3_notifyArrives_20 : decode cX3_notifyArrives 20 = .ok (.invokestatic 196, 3) := by decide +kernel
theorem dX3_notifyArrives_23 : decode cX3_notifyArrives 23 = .ok (.ifCond .eq 24, 3) := by decide +kernel
theorem dX3_notifyArrives_26 : decode cX3_notifyArrives 26 = .ok (.aload_n 1, 1) := by decide +kernel
theorem dX3_notifyArrives_27 : decode cX3_notifyArrives 27 = .ok (.aload_n 2, 1) := by decide +kernel
theorem dX3_notifyArrives_28 : decode cX3_notifyArrives 28 = .ok (.getfield 62, 3) := by decide +kernel
theorem dX3_notifyArrives_31 : decode cX3_notifyArrives 31 = .ok (.putfield 101, 3) := by decide +kernel
theorem dX3_notifyArrives_34 : decode cX3_notifyArrives 34 = .ok (.aload_n 0, 1) := by decide +kernel
theorem dX3_notifyArrives_35 : decode cX3_notifyArrives 35 = .ok (.aload_n 1, 1) := by decide +kernel
theorem dX3_notifyArrives_36 : decode cX3_notifyArrives 36 = .ok (.aload_n 0, 1) := by decide +kernel
theorem dX3_notifyArrives_37 : decode cX3_notifyArrives 37 = .ok (.aload_n 2, 1) := by decide +kernel
theorem dX3_notifyArrives_38 : decode cX3_notifyArrives 38 = .ok (.getfield 62, 3) := by decide +kernel
theorem dX3_notifyArrives_41 : decode cX3_notifyArrives 41 = .ok (.invokevirtual 44, 3) := by decide +kernel
theorem dX3_notifyArrives_44 : decode cX3_notifyArrives 44 = .ok (.invokevirtual 199, 3) := by decide +kernel
theorem dX3_notifyArrives_47 : decode cX3_notifyArrives 47 = .ok (.return_, 1) := by decide +kernel
theorem dX3_handOver_0 : decode cX3_handOver 0 = .ok (.aload_n 2, 1) := by decide +kernel
theorem dX3_handOver_1 : decode cX3_handOver 1 = .ok (.ifnonnull 4, 3) := by decide +kernel
theorem dX3_handOver_4 : decode cX3_handOver 4 = .ok (.return_, 1) := by decide +kernel
theorem dX3_handOver_5 : decode cX3_handOver 5 = .ok (.iconst 0, 1) := by decide +kernel
theorem dX3_handOver_6 : decode cX3_handOver 6 = .ok (.istore_n 3, 1) := by decide +kernel
theorem dX3_handOver_7 : decode cX3_handOver 7 = .ok (.iload_n 3, 1) := by decide +kernel
theorem dX3_handOver_8 : decode cX3_handOver 8 = .ok (.aload_n 0, 1) := by decide +kernel
theorem dX3_handOver_9 : decode cX3_handOver 9 = .ok (.getfield 23, 3) := by decide +kernel
theorem dX3_handOver_12 : decode cX3_handOver 12 = .ok (.if_icmp .ge 63, 3) := by decide +kernel
theorem dX3_handOver_15 : decode cX3_handOver 15 = .ok (.aload_n 1, 1) := by decide +kernel
theorem dX3_handOver_16 : decode cX3_handOver 16 = .ok (.getfield 113, 3) := by decide +kernel
theorem dX3_handOver_19 : decode cX3_handOver 19 = .ok (.iload_n 3, 1) := by decide +kernel
theorem dX3_handOver_20 : decode cX3_handOver 20 = .ok (.laload, 1) := by decide +kernel
theorem dX3_handOver_21 : decode cX3_handOver 21 = .ok (.ldc2_w 107, 3) := by decide +kernel
theorem dX3_handOver_24 : decode cX3_handOver 24 = .ok (.lcmp, 1) := by decide +kernel
theorem dX3_handOver_25 : decode cX3_handOver 25 = .ok (.ifCond .eq 44, 3) := by decide +kernel
theorem dX3_handOver_28 : decode cX3_handOver 28 = .ok (.aload_n 2, 1) := by decide +kernel
theorem dX3_handOver_29 : decode cX3_handOver 29 = .ok (.getfield 135, 3) := by decide +kernel
theorem dX3_handOver_32 : decode cX3_handOver 32 = .ok (.aload_n 1, 1) := by decide +kernel
theorem dX3_handOver_33 : decode cX3_handOver 33 = .ok (.getfield 135, 3) := by decide +kernel
theorem dX3_handOver_36 : decode cX3_handOver 36 = .ok (.aload_n 0, 1) := by decide +kernel
theorem dX3_handOver_37 : decode cX3_handOver 37 = .ok (.getfield 19, 3) := by decide +kernel
theorem dX3_handOver_40 : decode cX3_handOver 40 = .ok (.iload_n 3, 1) := by decide +kernel
theorem dX3_handOver_41 : decode cX3_handOver 41 = .ok (.iaload, 1) := by decide +kernel
theorem dX3_handOver_42 : decode cX3_handOver 42 = .ok (.invokestatic 185, 3) := by decide +kernel
theorem dX3_handOver_45 : decode cX3_handOver 45 = .ok (.ifCond .ne 24, 3) := by decide +kernel
theorem dX3_handOver_48 : decode cX3_handOver 48 = .ok (.aload_n 2, 1) := by decide +kernel
theorem dX3_handOver_49 : decode cX3_handOver 49 = .ok (.getfield 113, 3) := by decide +kernel
theorem dX3_handOver_52 : decode cX3_handOver 52 = .ok (.iload_n 3, 1) := by decide +kernel
theorem dX3_handOver_53 : decode cX3_handOver 53 = .ok (.aload_n 1, 1) := by decide +kernel
theorem dX3_handOver_54 : decode cX3_handOver 54 = .ok (.getfield 113, 3) := by decide +kernel
theorem dX3_handOver_57 : decode cX3_handOver 57 = .ok (.iload_n 3, 1) := by decide +kernel
theorem dX3_handOver_58 : decode cX3_handOver 58 = .ok (.laload, 1) := by decide +kernel
theorem dX3_handOver_59 : decode cX3_handOver 59 = .ok (.lastore, 1) := by decide +kernel
theorem dX3_handOver_60 : decode cX3_handOver 60 = .ok (.aload_n 1, 1) := by decide +kernel
theorem dX3_handOver_61 : decode cX3_handOver 61 = .ok (.getfield 113, 3) := by decide +kernel
theorem dX3_handOver_64 : decode cX3_handOver 64 = .ok (.iload_n 3, 1) := by decide +kernel
theorem dX3_handOver_65 : decode cX3_handOver 65 = .ok (.ldc2_w 107, 3) := by decide +kernel
theorem dX3_handOver_68 : decode cX3_handOver 68 = .ok (.lastore, 1) := by decide +kernel
theorem dX3_handOver_69 : decode cX3_handOver 69 = .ok (.iinc 3 1, 3) := by decide +kernel
theorem dX3_handOver_72 : decode cX3_handOver 72 = .ok (.goto (-65), 3) := by decide +kernel
theorem dX3_handOver_75 : decode cX3_handOver 75 = .ok (.return_, 1) := by decide +kernel
theorem dJ7_filli_0 : decode cJ7_filli 0 = .ok (.iconst 0, 1) := by decide +kernel
theorem dJ7_filli_1 : decode cJ7_filli 1 = .ok (.istore_n 2, 1) := by decide +kernel
theorem dJ7_filli_2 : decode cJ7_filli 2 = .ok (.aload_n 0, 1) := by decide +kernel
theorem dJ7_filli_3 : decode cJ7_filli 3 = .ok (.arraylength, 1) := by decide +kernel
theorem dJ7_filli_4 : decode cJ7_filli 4 = .ok (.istore_n 3, 1) := by decide +kernel
theorem dJ7_filli_5 : decode cJ7_filli 5 = .ok (.iload_n 2, 1) := by decide +kernel
theorem dJ7_filli_6 : decode cJ7_filli 6 = .ok (.iload_n 3, 1) := by decide +kernel
theorem dJ7_filli_7 : decode cJ7_filli 7 = .ok (.if_icmp .ge 13, 3) := by decide +kernel
theorem dJ7_filli_10 : decode cJ7_filli 10 = .ok (.aload_n 0, 1) := by decide +kernel
theorem dJ7_filli_11 : decode cJ7_filli 11 = .ok (.iload_n 2, 1) := by decide +kernel
theorem dJ7_filli_12 : decode cJ7_filli 12 = .ok (.iload_n 1, 1) := by decide +kernel
theorem dJ7_filli_13 : decode cJ7_filli 13 = .ok (.iastore, 1) := by decide +kernel
theorem dJ7_filli_14 : decode cJ7_filli 14 = .ok (.iinc 2 1, 3) := by decide +kernel
theorem dJ7_filli_17 : decode cJ7_filli 17 = .ok (.goto (-12), 3) := by decide +kernel
theorem dJ7_filli_20 : decode cJ7_filli 20 = .ok (.return_, 1) := by decide +kernel
theorem dJ7_filll_0 : decode cJ7_filll 0 = .ok (.iconst 0, 1) := by decide +kernel
theorem dJ7_filll_1 : decode cJ7_filll 1 = .ok (.istore_n 3, 1) := by decide +kernel
theorem dJ7_filll_2 : decode cJ7_filll 2 = .ok (.aload_n 0, 1) := by decide +kernel
theorem dJ7_filll_3 : decode cJ7_filll 3 = .ok (.arraylength, 1) := by decide +kernel
theorem dJ7_filll_4 : decode cJ7_filll 4 = .ok (.istore 4, 2) := by decide +kernel
theorem dJ7_filll_6 : decode cJ7_filll 6 = .ok (.iload_n 3, 1) := by decide +kernel
theorem dJ7_filll_7 : decode cJ7_filll 7 = .ok (.iload 4, 2) := by decide +kernel
theorem dJ7_filll_9 : decode cJ7_filll 9 = .ok (.if_icmp .ge 13, 3) := by decide +kernel
theorem dJ7_filll_12 : decode cJ7_filll 12 = .ok (.aload_n 0, 1) := by decide +kernel
theorem dJ7_filll_13 : decode cJ7_filll 13 = .ok (.iload_n 3, 1) := by decide +kernel
theorem dJ7_filll_14 : decode cJ7_filll 14 = .ok (.lload_n 1, 1) := by decide +kernel
theorem dJ7_filll_15 : decode cJ7_filll 15 = .ok (.lastore, 1) := by decide +kernel
theorem dJ7_filll_16 : decode cJ7_filll 16 = .ok (.iinc 3 1, 3) := by decide +kernel
theorem dJ7_filll_19 : decode cJ7_filll 19 = .ok (.goto (-13), 3) := by decide +kernel
theorem dJ7_filll_22 : decode cJ7_filll 22 = .ok (.return_, 1) := by decide +kernel
end
section
/-! The model, instruction by instruction. -/
theorem dX4_init_0 : decode cX4_init 0 = .ok (.aload_n 0, 1) := by decide +kernel
theorem dX4_init_1 : decode cX4_init 1 = .ok (.invokespecial 1, 3) := by decide +kernel
theorem dX4_init_4 : decode cX4_init 4 = .ok (.aload_n 0, 1) := by decide +kernel
theorem dX4_init_5 : decode cX4_init 5 = .ok (.sipush 256, 3) := by decide +kernel
theorem dX4_init_8 : decode cX4_init 8 = .ok (.newarray .int, 2) := by decide +kernel
theorem dX4_init_10 : decode cX4_init 10 = .ok (.putfield 7, 3) := by decide +kernel
theorem dX4_init_13 : decode cX4_init 13 = .ok (.aload_n 0, 1) := by decide +kernel
theorem dX4_init_14 : decode cX4_init 14 = .ok (.sipush 256, 3) := by decide +kernel
theorem dX4_init_17 : decode cX4_init 17 = .ok (.newarray .int, 2) := by decide +kernel
theorem dX4_init_19 : decode cX4_init 19 = .ok (.putfield 13, 3) := by decide +kernel
theorem dX4_init_22 : decode cX4_init 22 = .ok (.aload_n 0, 1) := by decide +kernel
theorem dX4_init_23 : decode cX4_init 23 = .ok (.sipush 256, 3) := by decide +kernel
theorem dX4_init_26 : decode cX4_init 26 = .ok (.newarray .int, 2) := by decide +kernel
theorem dX4_init_28 : decode cX4_init 28 = .ok (.putfield 16, 3) := by decide +kernel
theorem dX4_init_31 : decode cX4_init 31 = .ok (.aload_n 0, 1) := by decide +kernel
theorem dX4_init_32 : decode cX4_init 32 = .ok (.sipush 2048, 3) := by decide +kernel
theorem dX4_init_35 : decode cX4_init 35 = .ok (.newarray .int, 2) := by decide +kernel
theorem dX4_init_37 : decode cX4_init 37 = .ok (.putfield 19, 3) := by decide +kernel
theorem dX4_init_40 : decode cX4_init 40 = .ok (.aload_n 0, 1) := by decide +kernel
theorem dX4_init_41 : decode cX4_init 41 = .ok (.sipush 256, 3) := by decide +kernel
theorem dX4_init_44 : decode cX4_init 44 = .ok (.newarray .long, 2) := by decide +kernel
theorem dX4_init_46 : decode cX4_init 46 = .ok (.putfield 22, 3) := by decide +kernel
theorem dX4_init_49 : decode cX4_init 49 = .ok (.aload_n 0, 1) := by decide +kernel
theorem dX4_init_50 : decode cX4_init 50 = .ok (.sipush 256, 3) := by decide +kernel
theorem dX4_init_53 : decode cX4_init 53 = .ok (.newarray .int, 2) := by decide +kernel
theorem dX4_init_55 : decode cX4_init 55 = .ok (.putfield 26, 3) := by decide +kernel
theorem dX4_init_58 : decode cX4_init 58 = .ok (.aload_n 0, 1) := by decide +kernel
theorem dX4_init_59 : decode cX4_init 59 = .ok (.bipush 120, 2) := by decide +kernel
theorem dX4_init_61 : decode cX4_init 61 = .ok (.newarray .int, 2) := by decide +kernel
theorem dX4_init_63 : decode cX4_init 63 = .ok (.putfield 29, 3) := by decide +kernel
theorem dX4_init_66 : decode cX4_init 66 = .ok (.aload_n 0, 1) := by decide +kernel
theorem dX4_init_67 : decode cX4_init 67 = .ok (.bipush 120, 2) := by decide +kernel
theorem dX4_init_69 : decode cX4_init 69 = .ok (.newarray .int, 2) := by decide +kernel
theorem dX4_init_71 : decode cX4_init 71 = .ok (.putfield 32, 3) := by decide +kernel
theorem dX4_init_74 : decode cX4_init 74 = .ok (.aload_n 0, 1) := by decide +kernel
theorem dX4_init_75 : decode cX4_init 75 = .ok (.bipush 120, 2) := by decide +kernel
theorem dX4_init_77 : decode cX4_init 77 = .ok (.newarray .int, 2) := by decide +kernel
theorem dX4_init_79 : decode cX4_init 79 = .ok (.putfield 35, 3) := by decide +kernel
theorem dX4_init_82 : decode cX4_init 82 = .ok (.aload_n 0, 1) := by decide +kernel
theorem dX4_init_83 : decode cX4_init 83 = .ok (.bipush 10, 2) := by decide +kernel
theorem dX4_init_85 : decode cX4_init 85 = .ok (.newarray .int, 2) := by decide +kernel
theorem dX4_init_87 : decode cX4_init 87 = .ok (.putfield 38, 3) := by decide +kernel
theorem dX4_init_90 : decode cX4_init 90 = .ok (.aload_n 0, 1) := by decide +kernel
theorem dX4_init_91 : decode cX4_init 91 = .ok (.bipush 21, 2) := by decide +kernel
theorem dX4_init_93 : decode cX4_init 93 = .ok (.newarray .int, 2) := by decide +kernel
theorem dX4_init_95 : decode cX4_init 95 = .ok (.putfield 41, 3) := by decide +kernel
theorem dX4_init_98 : decode cX4_init 98 = .ok (.aload_n 0, 1) := by decide +kernel
theorem dX4_init_99 : decode cX4_init 99 = .ok (.bipush 21, 2) := by decide +kernel
theorem dX4_init_101 : decode cX4_init 101 = .ok (.newarray .int, 2) := by decide +kernel
theorem dX4_init_103 : decode cX4_init 103 = .ok (.putfield 44, 3) := by decide +kernel
theorem dX4_init_106 : decode cX4_init 106 = .ok (.aload_n 0, 1) := by decide +kernel
theorem dX4_init_107 : decode cX4_init 107 = .ok (.bipush 21, 2) := by decide +kernel
theorem dX4_init_109 : decode cX4_init 109 = .ok (.newarray .int, 2) := by decide +kernel
theorem dX4_init_111 : decode cX4_init 111 = .ok (.putfield 47, 3) := by decide +kernel
theorem dX4_init_114 : decode cX4_init 114 = .ok (.aload_n 0, 1) := by decide +kernel
theorem dX4_init_115 : decode cX4_init 115 = .ok (.bipush 21, 2) := by decide +kernel
theorem dX4_init_117 : decode cX4_init 117 = .ok (.newarray .int, 2) := by decide +kernel
theorem dX4_init_119 : decode cX4_init 119 = .ok (.putfield 50, 3) := by decide +kernel
theorem dX4_init_122 : decode cX4_init 122 = .ok (.aload_n 0, 1) := by decide +kernel
theorem dX4_init_123 : decode cX4_init 123 = .ok (.bipush 21, 2) := by decide +kernel
theorem dX4_init_125 : decode cX4_init 125 = .ok (.newarray .int, 2) := by decide +kernel
theorem dX4_init_127 : decode cX4_init 127 = .ok (.putfield 53, 3) := by decide +kernel
theorem dX4_init_130 : decode cX4_init 130 = .ok (.aload_n 0, 1) := by decide +kernel
theorem dX4_init_131 : decode cX4_init 131 = .ok (.bipush 21, 2) := by decide +kernel
theorem dX4_init_133 : decode cX4_init 133 = .ok (.newarray .int, 2) := by decide +kernel
theorem dX4_init_135 : decode cX4_init 135 = .ok (.putfield 56, 3) := by decide +kernel
theorem dX4_init_138 : decode cX4_init 138 = .ok (.aload_n 0, 1) := by decide +kernel
theorem dX4_init_139 : decode cX4_init 139 = .ok (.bipush 21, 2) := by decide +kernel
theorem dX4_init_141 : decode cX4_init 141 = .ok (.newarray .int, 2) := by decide +kernel
theorem dX4_init_143 : decode cX4_init 143 = .ok (.putfield 59, 3) := by decide +kernel
theorem dX4_init_146 : decode cX4_init 146 = .ok (.aload_n 0, 1) := by decide +kernel
theorem dX4_init_147 : decode cX4_init 147 = .ok (.bipush 21, 2) := by decide +kernel
theorem dX4_init_149 : decode cX4_init 149 = .ok (.newarray .long, 2) := by decide +kernel
theorem dX4_init_151 : decode cX4_init 151 = .ok (.putfield 62, 3) := by decide +kernel
theorem dX4_init_154 : decode cX4_init 154 = .ok (.iconst 0, 1) := by decide +kernel
theorem dX4_init_155 : decode cX4_init 155 = .ok (.istore_n 1, 1) := by decide +kernel
theorem dX4_init_156 : decode cX4_init 156 = .ok (.iload_n 1, 1) := by decide +kernel
theorem dX4_init_157 : decode cX4_init 157 = .ok (.sipush 256, 3) := by decide +kernel
theorem dX4_init_160 : decode cX4_init 160 = .ok (.if_icmp .ge 32, 3) := by decide +kernel
theorem dX4_init_163 : decode cX4_init 163 = .ok (.aload_n 0, 1) := by decide +kernel
theorem dX4_init_164 : decode cX4_init 164 = .ok (.getfield 13, 3) := by decide +kernel
theorem dX4_init_167 : decode cX4_init 167 = .ok (.iload_n 1, 1) := by decide +kernel
theorem dX4_init_168 : decode cX4_init 168 = .ok (.iconst (-1), 1) := by decide +kernel
theorem dX4_init_169 : decode cX4_init 169 = .ok (.iastore, 1) := by decide +kernel
theorem dX4_init_170 : decode cX4_init 170 = .ok (.aload_n 0, 1) := by decide +kernel
theorem dX4_init_171 : decode cX4_init 171 = .ok (.getfield 16, 3) := by decide +kernel
theorem dX4_init_174 : decode cX4_init 174 = .ok (.iload_n 1, 1) := by decide +kernel
theorem dX4_init_175 : decode cX4_init 175 = .ok (.iconst (-1), 1) := by decide +kernel
theorem dX4_init_176 : decode cX4_init 176 = .ok (.iastore, 1) := by decide +kernel
theorem dX4_init_177 : decode cX4_init 177 = .ok (.aload_n 0, 1) := by decide +kernel
theorem dX4_init_178 : decode cX4_init 178 = .ok (.getfield 22, 3) := by decide +kernel
theorem dX4_init_181 : decode cX4_init 181 = .ok (.iload_n 1, 1) := by decide +kernel
theorem dX4_init_182 : decode cX4_init 182 = .ok (.ldc2_w 65, 3) := by decide +kernel
theorem dX4_init_185 : decode cX4_init 185 = .ok (.lastore, 1) := by decide +kernel
theorem dX4_init_186 : decode cX4_init 186 = .ok (.iinc 1 1, 3) := by decide +kernel
theorem dX4_init_189 : decode cX4_init 189 = .ok (.goto (-33), 3) := by decide +kernel
theorem dX4_init_192 : decode cX4_init 192 = .ok (.iconst 0, 1) := by decide +kernel
theorem dX4_init_193 : decode cX4_init 193 = .ok (.istore_n 1, 1) := by decide +kernel
theorem dX4_init_194 : decode cX4_init 194 = .ok (.iload_n 1, 1) := by decide +kernel
theorem dX4_init_195 : decode cX4_init 195 = .ok (.sipush 2048, 3) := by decide +kernel
theorem dX4_init_198 : decode cX4_init 198 = .ok (.if_icmp .ge 16, 3) := by decide +kernel
theorem dX4_init_201 : decode cX4_init 201 = .ok (.aload_n 0, 1) := by decide +kernel
theorem dX4_init_202 : decode cX4_init 202 = .ok (.getfield 19, 3) := by decide +kernel
theorem dX4_init_205 : decode cX4_init 205 = .ok (.iload_n 1, 1) := by decide +kernel
theorem dX4_init_206 : decode cX4_init 206 = .ok (.iconst (-1), 1) := by decide +kernel
theorem dX4_init_207 : decode cX4_init 207 = .ok (.iastore, 1) := by decide +kernel
theorem dX4_init_208 : decode cX4_init 208 = .ok (.iinc 1 1, 3) := by decide +kernel
theorem dX4_init_211 : decode cX4_init 211 = .ok (.goto (-17), 3) := by decide +kernel
theorem dX4_init_214 : decode cX4_init 214 = .ok (.return_, 1) := by decide +kernel
theorem dX4_isId_0 : decode cX4_isId 0 = .ok (.iload_n 0, 1) := by decide +kernel
theorem dX4_isId_1 : decode cX4_isId 1 = .ok (.ifCond .lt 14, 3) := by decide +kernel
theorem dX4_isId_4 : decode cX4_isId 4 = .ok (.iload_n 0, 1) := by decide +kernel
theorem dX4_isId_5 : decode cX4_isId 5 = .ok (.sipush 255, 3) := by decide +kernel
theorem dX4_isId_8 : decode cX4_isId 8 = .ok (.if_icmp .gt 7, 3) := by decide +kernel
theorem dX4_isId_11 : decode cX4_isId 11 = .ok (.iconst 1, 1) := by decide +kernel
theorem dX4_isId_12 : decode cX4_isId 12 = .ok (.goto 4, 3) := by decide +kernel
theorem dX4_isId_15 : decode cX4_isId 15 = .ok (.iconst 0, 1) := by decide +kernel
theorem dX4_isId_16 : decode cX4_isId 16 = .ok (.ireturn, 1) := by decide +kernel
theorem dX4_isMember_0 : decode cX4_isMember 0 = .ok (.iload_n 1, 1) := by decide +kernel
theorem dX4_isMember_1 : decode cX4_isMember 1 = .ok (.invokestatic 67, 3) := by decide +kernel
theorem dX4_isMember_4 : decode cX4_isMember 4 = .ok (.ifCond .eq 17, 3) := by decide +kernel
theorem dX4_isMember_7 : decode cX4_isMember 7 = .ok (.aload_n 0, 1) := by decide +kernel
theorem dX4_isMember_8 : decode cX4_isMember 8 = .ok (.getfield 7, 3) := by decide +kernel
theorem dX4_isMember_11 : decode cX4_isMember 11 = .ok (.iload_n 1, 1) := by decide +kernel
theorem dX4_isMember_12 : decode cX4_isMember 12 = .ok (.iaload, 1) := by decide +kernel
theorem dX4_isMember_13 : decode cX4_isMember 13 = .ok (.iconst 2, 1) := by decide +kernel
theorem dX4_isMember_14 : decode cX4_isMember 14 = .ok (.if_icmp .ne 7, 3) := by decide +kernel
theorem dX4_isMember_17 : decode cX4_isMember 17 = .ok (.iconst 1, 1) := by decide +kernel
theorem dX4_isMember_18 : decode cX4_isMember 18 = .ok (.goto 4, 3) := by decide +kernel
theorem dX4_isMember_21 : decode cX4_isMember 21 = .ok (.iconst 0, 1) := by decide +kernel
theorem dX4_isMember_22 : decode cX4_isMember 22 = .ok (.ireturn, 1) := by decide +kernel
theorem dX4_past_0 : decode cX4_past 0 = .ok (.iload_n 1, 1) := by decide +kernel
theorem dX4_past_1 : decode cX4_past 1 = .ok (.istore_n 3, 1) := by decide +kernel
theorem dX4_past_2 : decode cX4_past 2 = .ok (.iconst 0, 1) := by decide +kernel
theorem dX4_past_3 : decode cX4_past 3 = .ok (.istore 4, 2) := by decide +kernel
theorem dX4_past_5 : decode cX4_past 5 = .ok (.iload 4, 2) := by decide +kernel
theorem dX4_past_7 : decode cX4_past 7 = .ok (.sipush 256, 3) := by decide +kernel
theorem dX4_past_10 : decode cX4_past 10 = .ok (.if_icmp .ge 31, 3) := by decide +kernel
theorem dX4_past_13 : decode cX4_past 13 = .ok (.iload_n 3, 1) := by decide +kernel
theorem dX4_past_14 : decode cX4_past 14 = .ok (.iconst 1, 1) := by decide +kernel
theorem dX4_past_15 : decode cX4_past 15 = .ok (.iadd, 1) := by decide +kernel
theorem dX4_past_16 : decode cX4_past 16 = .ok (.sipush 256, 3) := by decide +kernel
theorem dX4_past_19 : decode cX4_past 19 = .ok (.irem, 1) := by decide +kernel
theorem dX4_past_20 : decode cX4_past 20 = .ok (.istore_n 3, 1) := by decide +kernel
theorem dX4_past_21 : decode cX4_past 21 = .ok (.iload_n 3, 1) := by decide +kernel
theorem dX4_past_22 : decode cX4_past 22 = .ok (.iload_n 0, 1) := by decide +kernel
theorem dX4_past_23 : decode cX4_past 23 = .ok (.if_icmp .ne 5, 3) := by decide +kernel
theorem dX4_past_26 : decode cX4_past 26 = .ok (.iconst 1, 1) := by decide +kernel
theorem dX4_past_27 : decode cX4_past 27 = .ok (.ireturn, 1) := by decide +kernel
theorem dX4_past_28 : decode cX4_past 28 = .ok (.iload_n 3, 1) := by decide +kernel
theorem dX4_past_29 : decode cX4_past 29 = .ok (.iload_n 2, 1) := by decide +kernel
theorem dX4_past_30 : decode cX4_past 30 = .ok (.if_icmp .ne 5, 3) := by decide +kernel
theorem dX4_past_33 : decode cX4_past 33 = .ok (.iconst 0, 1) := by decide +kernel
theorem dX4_past_34 : decode cX4_past 34 = .ok (.ireturn, 1) := by decide +kernel
theorem dX4_past_35 : decode cX4_past 35 = .ok (.iinc 4 1, 3) := by decide +kernel
theorem dX4_past_38 : decode cX4_past 38 = .ok (.goto (-33), 3) := by decide +kernel
theorem dX4_past_41 : decode cX4_past 41 = .ok (.iconst 0, 1) := by decide +kernel
theorem dX4_past_42 : decode cX4_past 42 = .ok (.ireturn, 1) := by decide +kernel
theorem dX4_between_0 : decode cX4_between 0 = .ok (.iload_n 0, 1) := by decide +kernel
theorem dX4_between_1 : decode cX4_between 1 = .ok (.iload_n 2, 1) := by decide +kernel
theorem dX4_between_2 : decode cX4_between 2 = .ok (.if_icmp .eq 16, 3) := by decide +kernel
theorem dX4_between_5 : decode cX4_between 5 = .ok (.iload_n 0, 1) := by decide +kernel
theorem dX4_between_6 : decode cX4_between 6 = .ok (.iload_n 1, 1) := by decide +kernel
theorem dX4_between_7 : decode cX4_between 7 = .ok (.iload_n 2, 1) := by decide +kernel
theorem dX4_between_8 : decode cX4_between 8 = .ok (.invokestatic 71, 3) := by decide +kernel
theorem dX4_between_11 : decode cX4_between 11 = .ok (.ifCond .eq 7, 3) := by decide +kernel
theorem dX4_between_14 : decode cX4_between 14 = .ok (.iconst 1, 1) := by decide +kernel
theorem dX4_between_15 : decode cX4_between 15 = .ok (.goto 4, 3) := by decide +kernel
theorem dX4_between_18 : decode cX4_between 18 = .ok (.iconst 0, 1) := by decide +kernel
theorem dX4_between_19 : decode cX4_between 19 = .ok (.ireturn, 1) := by decide +kernel
theorem dX4_first_0 : decode cX4_first 0 = .ok (.iload_n 1, 1) := by decide +kernel
theorem dX4_first_1 : decode cX4_first 1 = .ok (.sipush 255, 3) := by decide +kernel
theorem dX4_first_4 : decode cX4_first 4 = .ok (.iand, 1) := by decide +kernel
theorem dX4_first_5 : decode cX4_first 5 = .ok (.istore_n 3, 1) := by decide +kernel
theorem dX4_first_6 : decode cX4_first 6 = .ok (.iconst 0, 1) := by decide +kernel
theorem dX4_first_7 : decode cX4_first 7 = .ok (.istore 4, 2) := by decide +kernel
theorem dX4_first_9 : decode cX4_first 9 = .ok (.iload 4, 2) := by decide +kernel
theorem dX4_first_11 : decode cX4_first 11 = .ok (.sipush 256, 3) := by decide +kernel
theorem dX4_first_14 : decode cX4_first 14 = .ok (.if_icmp .ge 29, 3) := by decide +kernel
theorem dX4_first_17 : decode cX4_first 17 = .ok (.aload_n 0, 1) := by decide +kernel
theorem dX4_first_18 : decode cX4_first 18 = .ok (.getfield 7, 3) := by decide +kernel
theorem dX4_first_21 : decode cX4_first 21 = .ok (.iload_n 3, 1) := by decide +kernel
theorem dX4_first_22 : decode cX4_first 22 = .ok (.iaload, 1) := by decide +kernel
theorem dX4_first_23 : decode cX4_first 23 = .ok (.iconst 2, 1) := by decide +kernel
theorem dX4_first_24 : decode cX4_first 24 = .ok (.if_icmp .ne 5, 3) := by decide +kernel
theorem dX4_first_27 : decode cX4_first 27 = .ok (.iload_n 3, 1) := by decide +kernel
theorem dX4_first_28 : decode cX4_first 28 = .ok (.ireturn, 1) := by decide +kernel
theorem dX4_first_29 : decode cX4_first 29 = .ok (.iload_n 3, 1) := by decide +kernel
theorem dX4_first_30 : decode cX4_first 30 = .ok (.iload_n 2, 1) := by decide +kernel
theorem dX4_first_31 : decode cX4_first 31 = .ok (.iadd, 1) := by decide +kernel
theorem dX4_first_32 : decode cX4_first 32 = .ok (.sipush 255, 3) := by decide +kernel
theorem dX4_first_35 : decode cX4_first 35 = .ok (.iand, 1) := by decide +kernel
theorem dX4_first_36 : decode cX4_first 36 = .ok (.istore_n 3, 1) := by decide +kernel
theorem dX4_first_37 : decode cX4_first 37 = .ok (.iinc 4 1, 3) := by decide +kernel
theorem dX4_first_40 : decode cX4_first 40 = .ok (.goto (-31), 3) := by decide +kernel
theorem dX4_first_43 : decode cX4_first 43 = .ok (.iconst (-1), 1) := by decide +kernel
theorem dX4_first_44 : decode cX4_first 44 = .ok (.ireturn, 1) := by decide +kernel
theorem dX4_post_0 : decode cX4_post 0 = .ok (.aload_n 0, 1) := by decide +kernel
theorem dX4_post_1 : decode cX4_post 1 = .ok (.getfield 41, 3) := by decide +kernel
theorem dX4_post_4 : decode cX4_post 4 = .ok (.aload_n 0, 1) := by decide +kernel
theorem dX4_post_5 : decode cX4_post 5 = .ok (.getfield 75, 3) := by decide +kernel
theorem dX4_post_8 : decode cX4_post 8 = .ok (.iload_n 1, 1) := by decide +kernel
theorem dX4_post_9 : decode cX4_post 9 = .ok (.iastore, 1) := by decide +kernel
theorem dX4_post_10 : decode cX4_post 10 = .ok (.aload_n 0, 1) := by decide +kernel
theorem dX4_post_11 : decode cX4_post 11 = .ok (.getfield 44, 3) := by decide +kernel
theorem dX4_post_14 : decode cX4_post 14 = .ok (.aload_n 0, 1) := by decide +kernel
theorem dX4_post_15 : decode cX4_post 15 = .ok (.getfield 75, 3) := by decide +kernel
theorem dX4_post_18 : decode cX4_post 18 = .ok (.iload_n 2, 1) := by decide +kernel
theorem dX4_post_19 : decode cX4_post 19 = .ok (.iastore, 1) := by decide +kernel
theorem dX4_post_20 : decode cX4_post 20 = .ok (.aload_n 0, 1) := by decide +kernel
theorem dX4_post_21 : decode cX4_post 21 = .ok (.getfield 47, 3) := by decide +kernel
theorem dX4_post_24 : decode cX4_post 24 = .ok (.aload_n 0, 1) := by decide +kernel
theorem dX4_post_25 : decode cX4_post 25 = .ok (.getfield 75, 3) := by decide +kernel
theorem dX4_post_28 : decode cX4_post 28 = .ok (.iload_n 3, 1) := by decide +kernel
theorem dX4_post_29 : decode cX4_post 29 = .ok (.iastore, 1) := by decide +kernel
theorem dX4_post_30 : decode cX4_post 30 = .ok (.aload_n 0, 1) := by decide +kernel
theorem dX4_post_31 : decode cX4_post 31 = .ok (.getfield 56, 3) := by decide +kernel
theorem dX4_post_34 : decode cX4_post 34 = .ok (.aload_n 0, 1) := by decide +kernel
theorem dX4_post_35 : decode cX4_post 35 = .ok (.getfield 75, 3) := by decide +kernel
theorem dX4_post_38 : decode cX4_post 38 = .ok (.iload 4, 2) := by decide +kernel
theorem dX4_post_40 : decode cX4_post 40 = .ok (.iastore, 1) := by decide +kernel
theorem dX4_post_41 : decode cX4_post 41 = .ok (.aload_n 0, 1) := by decide +kernel
theorem dX4_post_42 : decode cX4_post 42 = .ok (.getfield 50, 3) := by decide +kernel
theorem dX4_post_45 : decode cX4_post 45 = .ok (.aload_n 0, 1) := by decide +kernel
theorem dX4_post_46 : decode cX4_post 46 = .ok (.getfield 75, 3) := by decide +kernel
theorem dX4_post_49 : decode cX4_post 49 = .ok (.iconst 0, 1) := by decide +kernel
theorem dX4_post_50 : decode cX4_post 50 = .ok (.iastore, 1) := by decide +kernel
theorem dX4_post_51 : decode cX4_post 51 = .ok (.aload_n 0, 1) := by decide +kernel
theorem dX4_post_52 : decode cX4_post 52 = .ok (.getfield 53, 3) := by decide +kernel
theorem dX4_post_55 : decode cX4_post 55 = .ok (.aload_n 0, 1) := by decide +kernel
theorem dX4_post_56 : decode cX4_post 56 = .ok (.getfield 75, 3) := by decide +kernel
theorem dX4_post_59 : decode cX4_post 59 = .ok (.iconst 0, 1) := by decide +kernel
theorem dX4_post_60 : decode cX4_post 60 = .ok (.iastore, 1) := by decide +kernel
theorem dX4_post_61 : decode cX4_post 61 = .ok (.aload_n 0, 1) := by decide +kernel
theorem dX4_post_62 : decode cX4_post 62 = .ok (.getfield 59, 3) := by decide +kernel
theorem dX4_post_65 : decode cX4_post 65 = .ok (.aload_n 0, 1) := by decide +kernel
theorem dX4_post_66 : decode cX4_post 66 = .ok (.getfield 75, 3) := by decide +kernel
theorem dX4_post_69 : decode cX4_post 69 = .ok (.iconst 0, 1) := by decide +kernel
theorem dX4_post_70 : decode cX4_post 70 = .ok (.iastore, 1) := by decide +kernel
theorem dX4_post_71 : decode cX4_post 71 = .ok (.aload_n 0, 1) := by decide +kernel
theorem dX4_post_72 : decode cX4_post 72 = .ok (.getfield 62, 3) := by decide +kernel
theorem dX4_post_75 : decode cX4_post 75 = .ok (.aload_n 0, 1) := by decide +kernel
theorem dX4_post_76 : decode cX4_post 76 = .ok (.getfield 75, 3) := by decide +kernel
theorem dX4_post_79 : decode cX4_post 79 = .ok (.lconst 0, 1) := by decide +kernel
theorem dX4_post_80 : decode cX4_post 80 = .ok (.lastore, 1) := by decide +kernel
theorem dX4_post_81 : decode cX4_post 81 = .ok (.aload_n 0, 1) := by decide +kernel
theorem dX4_post_82 : decode cX4_post 82 = .ok (.dup, 1) := by decide +kernel
theorem dX4_post_83 : decode cX4_post 83 = .ok (.getfield 75, 3) := by decide +kernel
theorem dX4_post_86 : decode cX4_post 86 = .ok (.iconst 1, 1) := by decide +kernel
theorem dX4_post_87 : decode cX4_post 87 = .ok (.iadd, 1) := by decide +kernel
theorem dX4_post_88 : decode cX4_post 88 = .ok (.putfield 75, 3) := by decide +kernel
theorem dX4_post_91 : decode cX4_post 91 = .ok (.return_, 1) := by decide +kernel
theorem dX4_copy_0 : decode cX4_copy 0 = .ok (.aload_n 0, 1) := by decide +kernel
theorem dX4_copy_1 : decode cX4_copy 1 = .ok (.getfield 41, 3) := by decide +kernel
theorem dX4_copy_4 : decode cX4_copy 4 = .ok (.iload_n 2, 1) := by decide +kernel
theorem dX4_copy_5 : decode cX4_copy 5 = .ok (.aload_n 0, 1) := by decide +kernel
theorem dX4_copy_6 : decode cX4_copy 6 = .ok (.getfield 41, 3) := by decide +kernel
theorem dX4_copy_9 : decode cX4_copy 9 = .ok (.iload_n 1, 1) := by decide +kernel
theorem dX4_copy_10 : decode cX4_copy 10 = .ok (.iaload, 1) := by decide +kernel
theorem dX4_copy_11 : decode cX4_copy 11 = .ok (.iastore, 1) := by decide +kernel
theorem dX4_copy_12 : decode cX4_copy 12 = .ok (.aload_n 0, 1) := by decide +kernel
theorem dX4_copy_13 : decode cX4_copy 13 = .ok (.getfield 44, 3) := by decide +kernel
theorem dX4_copy_16 : decode cX4_copy 16 = .ok (.iload_n 2, 1) := by decide +kernel
theorem dX4_copy_17 : decode cX4_copy 17 = .ok (.aload_n 0, 1) := by decide +kernel
theorem dX4_copy_18 : decode cX4_copy 18 = .ok (.getfield 44, 3) := by decide +kernel
theorem dX4_copy_21 : decode cX4_copy 21 = .ok (.iload_n 1, 1) := by decide +kernel
theorem dX4_copy_22 : decode cX4_copy 22 = .ok (.iaload, 1) := by decide +kernel
theorem dX4_copy_23 : decode cX4_copy 23 = .ok (.iastore, 1) := by decide +kernel
theorem dX4_copy_24 : decode cX4_copy 24 = .ok (.aload_n 0, 1) := by decide +kernel
theorem dX4_copy_25 : decode cX4_copy 25 = .ok (.getfield 47, 3) := by decide +kernel
theorem dX4_copy_28 : decode cX4_copy 28 = .ok (.iload_n 2, 1) := by decide +kernel
theorem dX4_copy_29 : decode cX4_copy 29 = .ok (.aload_n 0, 1) := by decide +kernel
theorem dX4_copy_30 : decode cX4_copy 30 = .ok (.getfield 47, 3) := by decide +kernel
theorem dX4_copy_33 : decode cX4_copy 33 = .ok (.iload_n 1, 1) := by decide +kernel
theorem dX4_copy_34 : decode cX4_copy 34 = .ok (.iaload, 1) := by decide +kernel
theorem dX4_copy_35 : decode cX4_copy 35 = .ok (.iastore, 1) := by decide +kernel
theorem dX4_copy_36 : decode cX4_copy 36 = .ok (.aload_n 0, 1) := by decide +kernel
theorem dX4_copy_37 : decode cX4_copy 37 = .ok (.getfield 50, 3) := by decide +kernel
theorem dX4_copy_40 : decode cX4_copy 40 = .ok (.iload_n 2, 1) := by decide +kernel
theorem dX4_copy_41 : decode cX4_copy 41 = .ok (.aload_n 0, 1) := by decide +kernel
theorem dX4_copy_42 : decode cX4_copy 42 = .ok (.getfield 50, 3) := by decide +kernel
theorem dX4_copy_45 : decode cX4_copy 45 = .ok (.iload_n 1, 1) := by decide +kernel
theorem dX4_copy_46 : decode cX4_copy 46 = .ok (.iaload, 1) := by decide +kernel
theorem dX4_copy_47 : decode cX4_copy 47 = .ok (.iastore, 1) := by decide +kernel
theorem dX4_copy_48 : decode cX4_copy 48 = .ok (.aload_n 0, 1) := by decide +kernel
theorem dX4_copy_49 : decode cX4_copy 49 = .ok (.getfield 53, 3) := by decide +kernel
theorem dX4_copy_52 : decode cX4_copy 52 = .ok (.iload_n 2, 1) := by decide +kernel
theorem dX4_copy_53 : decode cX4_copy 53 = .ok (.aload_n 0, 1) := by decide +kernel
theorem dX4_copy_54 : decode cX4_copy 54 = .ok (.getfield 53, 3) := by decide +kernel
theorem dX4_copy_57 : decode cX4_copy 57 = .ok (.iload_n 1, 1) := by decide +kernel
theorem dX4_copy_58 : decode cX4_copy 58 = .ok (.iaload, 1) := by decide +kernel
theorem dX4_copy_59 : decode cX4_copy 59 = .ok (.iastore, 1) := by decide +kernel
theorem dX4_copy_60 : decode cX4_copy 60 = .ok (.aload_n 0, 1) := by decide +kernel
theorem dX4_copy_61 : decode cX4_copy 61 = .ok (.getfield 56, 3) := by decide +kernel
theorem dX4_copy_64 : decode cX4_copy 64 = .ok (.iload_n 2, 1) := by decide +kernel
theorem dX4_copy_65 : decode cX4_copy 65 = .ok (.aload_n 0, 1) := by decide +kernel
theorem dX4_copy_66 : decode cX4_copy 66 = .ok (.getfield 56, 3) := by decide +kernel
theorem dX4_copy_69 : decode cX4_copy 69 = .ok (.iload_n 1, 1) := by decide +kernel
theorem dX4_copy_70 : decode cX4_copy 70 = .ok (.iaload, 1) := by decide +kernel
theorem dX4_copy_71 : decode cX4_copy 71 = .ok (.iastore, 1) := by decide +kernel
theorem dX4_copy_72 : decode cX4_copy 72 = .ok (.aload_n 0, 1) := by decide +kernel
theorem dX4_copy_73 : decode cX4_copy 73 = .ok (.getfield 59, 3) := by decide +kernel
theorem dX4_copy_76 : decode cX4_copy 76 = .ok (.iload_n 2, 1) := by decide +kernel
theorem dX4_copy_77 : decode cX4_copy 77 = .ok (.aload_n 0, 1) := by decide +kernel
theorem dX4_copy_78 : decode cX4_copy 78 = .ok (.getfield 59, 3) := by decide +kernel
theorem dX4_copy_81 : decode cX4_copy 81 = .ok (.iload_n 1, 1) := by decide +kernel
theorem dX4_copy_82 : decode cX4_copy 82 = .ok (.iaload, 1) := by decide +kernel
theorem dX4_copy_83 : decode cX4_copy 83 = .ok (.iastore, 1) := by decide +kernel
theorem dX4_copy_84 : decode cX4_copy 84 = .ok (.aload_n 0, 1) := by decide +kernel
theorem dX4_copy_85 : decode cX4_copy 85 = .ok (.getfield 62, 3) := by decide +kernel
theorem dX4_copy_88 : decode cX4_copy 88 = .ok (.iload_n 2, 1) := by decide +kernel
theorem dX4_copy_89 : decode cX4_copy 89 = .ok (.aload_n 0, 1) := by decide +kernel
theorem dX4_copy_90 : decode cX4_copy 90 = .ok (.getfield 62, 3) := by decide +kernel
theorem dX4_copy_93 : decode cX4_copy 93 = .ok (.iload_n 1, 1) := by decide +kernel
theorem dX4_copy_94 : decode cX4_copy 94 = .ok (.laload, 1) := by decide +kernel
theorem dX4_copy_95 : decode cX4_copy 95 = .ok (.lastore, 1) := by decide +kernel
theorem dX4_copy_96 : decode cX4_copy 96 = .ok (.return_, 1) := by decide +kernel
theorem dX4_ask_0 : decode cX4_ask 0 = .ok (.aload_n 0, 1) := by decide +kernel
theorem dX4_ask_1 : decode cX4_ask 1 = .ok (.iconst 1, 1) := by decide +kernel
theorem dX4_ask_2 : decode cX4_ask 2 = .ok (.iload_n 1, 1) := by decide +kernel
theorem dX4_ask_3 : decode cX4_ask 3 = .ok (.iload_n 2, 1) := by decide +kernel
theorem dX4_ask_4 : decode cX4_ask 4 = .ok (.sipush 255, 3) := by decide +kernel
theorem dX4_ask_7 : decode cX4_ask 7 = .ok (.iand, 1) := by decide +kernel
theorem dX4_ask_8 : decode cX4_ask 8 = .ok (.iload_n 1, 1) := by decide +kernel
theorem dX4_ask_9 : decode cX4_ask 9 = .ok (.invokevirtual 79, 3) := by decide +kernel
theorem dX4_ask_12 : decode cX4_ask 12 = .ok (.aload_n 0, 1) := by decide +kernel
theorem dX4_ask_13 : decode cX4_ask 13 = .ok (.getfield 50, 3) := by decide +kernel
theorem dX4_ask_16 : decode cX4_ask 16 = .ok (.aload_n 0, 1) := by decide +kernel
theorem dX4_ask_17 : decode cX4_ask 17 = .ok (.getfield 75, 3) := by decide +kernel
theorem dX4_ask_20 : decode cX4_ask 20 = .ok (.iconst 1, 1) := by decide +kernel
theorem dX4_ask_21 : decode cX4_ask 21 = .ok (.isub, 1) := by decide +kernel
theorem dX4_ask_22 : decode cX4_ask 22 = .ok (.iload_n 3, 1) := by decide +kernel
theorem dX4_ask_23 : decode cX4_ask 23 = .ok (.iastore, 1) := by decide +kernel
theorem dX4_ask_24 : decode cX4_ask 24 = .ok (.aload_n 0, 1) := by decide +kernel
theorem dX4_ask_25 : decode cX4_ask 25 = .ok (.getfield 53, 3) := by decide +kernel
theorem dX4_ask_28 : decode cX4_ask 28 = .ok (.aload_n 0, 1) := by decide +kernel
theorem dX4_ask_29 : decode cX4_ask 29 = .ok (.getfield 75, 3) := by decide +kernel
theorem dX4_ask_32 : decode cX4_ask 32 = .ok (.iconst 1, 1) := by decide +kernel
theorem dX4_ask_33 : decode cX4_ask 33 = .ok (.isub, 1) := by decide +kernel
theorem dX4_ask_34 : decode cX4_ask 34 = .ok (.iload 4, 2) := by decide +kernel
theorem dX4_ask_36 : decode cX4_ask 36 = .ok (.iastore, 1) := by decide +kernel
theorem dX4_ask_37 : decode cX4_ask 37 = .ok (.aload_n 0, 1) := by decide +kernel
theorem dX4_ask_38 : decode cX4_ask 38 = .ok (.getfield 62, 3) := by decide +kernel
theorem dX4_ask_41 : decode cX4_ask 41 = .ok (.aload_n 0, 1) := by decide +kernel
theorem dX4_ask_42 : decode cX4_ask 42 = .ok (.getfield 75, 3) := by decide +kernel
theorem dX4_ask_45 : decode cX4_ask 45 = .ok (.iconst 1, 1) := by decide +kernel
theorem dX4_ask_46 : decode cX4_ask 46 = .ok (.isub, 1) := by decide +kernel
theorem dX4_ask_47 : decode cX4_ask 47 = .ok (.lload 5, 2) := by decide +kernel
theorem dX4_ask_49 : decode cX4_ask 49 = .ok (.lastore, 1) := by decide +kernel
theorem dX4_ask_50 : decode cX4_ask 50 = .ok (.return_, 1) := by decide +kernel
theorem dX4_create_0 : decode cX4_create 0 = .ok (.iload_n 1, 1) := by decide +kernel
theorem dX4_create_1 : decode cX4_create 1 = .ok (.invokestatic 67, 3) := by decide +kernel
theorem dX4_create_4 : decode cX4_create 4 = .ok (.ifCond .eq 10, 3) := by decide +kernel
theorem dX4_create_7 : decode cX4_create 7 = .ok (.aload_n 0, 1) := by decide +kernel
theorem dX4_create_8 : decode cX4_create 8 = .ok (.getfield 83, 3) := by decide +kernel
theorem dX4_create_11 : decode cX4_create 11 = .ok (.ifCond .le 5, 3) := by decide +kernel
theorem dX4_create_14 : decode cX4_create 14 = .ok (.iconst 0, 1) := by decide +kernel
theorem dX4_create_15 : decode cX4_create 15 = .ok (.ireturn, 1) := by decide +kernel
theorem dX4_create_16 : decode cX4_create 16 = .ok (.aload_n 0, 1) := by decide +kernel
theorem dX4_create_17 : decode cX4_create 17 = .ok (.iconst 1, 1) := by decide +kernel
theorem dX4_create_18 : decode cX4_create 18 = .ok (.putfield 83, 3) := by decide +kernel
theorem dX4_create_21 : decode cX4_create 21 = .ok (.aload_n 0, 1) := by decide +kernel
theorem dX4_create_22 : decode cX4_create 22 = .ok (.getfield 7, 3) := by decide +kernel
theorem dX4_create_25 : decode cX4_create 25 = .ok (.iload_n 1, 1) := by decide +kernel
theorem dX4_create_26 : decode cX4_create 26 = .ok (.iconst 2, 1) := by decide +kernel
theorem dX4_create_27 : decode cX4_create 27 = .ok (.iastore, 1) := by decide +kernel
theorem dX4_create_28 : decode cX4_create 28 = .ok (.aload_n 0, 1) := by decide +kernel
theorem dX4_create_29 : decode cX4_create 29 = .ok (.getfield 13, 3) := by decide +kernel
theorem dX4_create_32 : decode cX4_create 32 = .ok (.iload_n 1, 1) := by decide +kernel
theorem dX4_create_33 : decode cX4_create 33 = .ok (.iload_n 1, 1) := by decide +kernel
theorem dX4_create_34 : decode cX4_create 34 = .ok (.iastore, 1) := by decide +kernel
theorem dX4_create_35 : decode cX4_create 35 = .ok (.iconst 1, 1) := by decide +kernel
theorem dX4_create_36 : decode cX4_create 36 = .ok (.ireturn, 1) := by decide +kernel
theorem dX4_join_0 : decode cX4_join 0 = .ok (.iload_n 1, 1) := by decide +kernel
theorem dX4_join_1 : decode cX4_join 1 = .ok (.invokestatic 67, 3) := by decide +kernel
theorem dX4_join_4 : decode cX4_join 4 = .ok (.ifCond .eq 38, 3) := by decide +kernel
theorem dX4_join_7 : decode cX4_join 7 = .ok (.aload_n 0, 1) := by decide +kernel
theorem dX4_join_8 : decode cX4_join 8 = .ok (.getfield 7, 3) := by decide +kernel
theorem dX4_join_11 : decode cX4_join 11 = .ok (.iload_n 1, 1) := by decide +kernel
theorem dX4_join_12 : decode cX4_join 12 = .ok (.iaload, 1) := by decide +kernel
theorem dX4_join_13 : decode cX4_join 13 = .ok (.ifCond .ne 29, 3) := by decide +kernel
theorem dX4_join_16 : decode cX4_join 16 = .ok (.aload_n 0, 1) := by decide +kernel
theorem dX4_join_17 : decode cX4_join 17 = .ok (.iload_n 2, 1) := by decide +kernel
theorem dX4_join_18 : decode cX4_join 18 = .ok (.invokevirtual 86, 3) := by decide +kernel
theorem dX4_join_21 : decode cX4_join 21 = .ok (.ifCond .eq 21, 3) := by decide +kernel
theorem dX4_join_24 : decode cX4_join 24 = .ok (.aload_n 0, 1) := by decide +kernel
theorem dX4_join_25 : decode cX4_join 25 = .ok (.getfield 83, 3) := by decide +kernel
theorem dX4_join_28 : decode cX4_join 28 = .ok (.bipush 12, 2) := by decide +kernel
theorem dX4_join_30 : decode cX4_join 30 = .ok (.if_icmp .ge 12, 3) := by decide +kernel
theorem dX4_join_33 : decode cX4_join 33 = .ok (.aload_n 0, 1) := by decide +kernel
theorem dX4_join_34 : decode cX4_join 34 = .ok (.getfield 75, 3) := by decide +kernel
theorem dX4_join_37 : decode cX4_join 37 = .ok (.bipush 20, 2) := by decide +kernel
theorem dX4_join_39 : decode cX4_join 39 = .ok (.if_icmp .lt 5, 3) := by decide +kernel
theorem dX4_join_42 : decode cX4_join 42 = .ok (.iconst 0, 1) := by decide +kernel
theorem dX4_join_43 : decode cX4_join 43 = .ok (.ireturn, 1) := by decide +kernel
theorem dX4_join_44 : decode cX4_join 44 = .ok (.aload_n 0, 1) := by decide +kernel
theorem dX4_join_45 : decode cX4_join 45 = .ok (.dup, 1) := by decide +kernel
theorem dX4_join_46 : decode cX4_join 46 = .ok (.getfield 83, 3) := by decide +kernel
theorem dX4_join_49 : decode cX4_join 49 = .ok (.iconst 1, 1) := by decide +kernel
theorem dX4_join_50 : decode cX4_join 50 = .ok (.iadd, 1) := by decide +kernel
theorem dX4_join_51 : decode cX4_join 51 = .ok (.putfield 83, 3) := by decide +kernel
theorem dX4_join_54 : decode cX4_join 54 = .ok (.aload_n 0, 1) := by decide +kernel
theorem dX4_join_55 : decode cX4_join 55 = .ok (.getfield 7, 3) := by decide +kernel
theorem dX4_join_58 : decode cX4_join 58 = .ok (.iload_n 1, 1) := by decide +kernel
theorem dX4_join_59 : decode cX4_join 59 = .ok (.iconst 1, 1) := by decide +kernel
theorem dX4_join_60 : decode cX4_join 60 = .ok (.iastore, 1) := by decide +kernel
theorem dX4_join_61 : decode cX4_join 61 = .ok (.aload_n 0, 1) := by decide +kernel
theorem dX4_join_62 : decode cX4_join 62 = .ok (.iload_n 2, 1) := by decide +kernel
theorem dX4_join_63 : decode cX4_join 63 = .ok (.iload_n 1, 1) := by decide +kernel
theorem dX4_join_64 : decode cX4_join 64 = .ok (.iconst 0, 1) := by decide +kernel
theorem dX4_join_65 : decode cX4_join 65 = .ok (.iconst 0, 1) := by decide +kernel
theorem dX4_join_66 : decode cX4_join 66 = .ok (.lconst 0, 1) := by decide +kernel
theorem dX4_join_67 : decode cX4_join 67 = .ok (.invokevirtual 89, 3) := by decide +kernel
theorem dX4_join_70 : decode cX4_join 70 = .ok (.aload_n 0, 1) := by decide +kernel
theorem dX4_join_71 : decode cX4_join 71 = .ok (.getfield 56, 3) := by decide +kernel
theorem dX4_join_74 : decode cX4_join 74 = .ok (.aload_n 0, 1) := by decide +kernel
theorem dX4_join_75 : decode cX4_join 75 = .ok (.getfield 75, 3) := by decide +kernel
theorem dX4_join_78 : decode cX4_join 78 = .ok (.iconst 1, 1) := by decide +kernel
theorem dX4_join_79 : decode cX4_join 79 = .ok (.isub, 1) := by decide +kernel
theorem dX4_join_80 : decode cX4_join 80 = .ok (.iload_n 1, 1) := by decide +kernel
theorem dX4_join_81 : decode cX4_join 81 = .ok (.iastore, 1) := by decide +kernel
theorem dX4_join_82 : decode cX4_join 82 = .ok (.iconst 1, 1) := by decide +kernel
theorem dX4_join_83 : decode cX4_join 83 = .ok (.ireturn, 1) := by decide +kernel
theorem dX4_stabilise_0 : decode cX4_stabilise 0 = .ok (.aload_n 0, 1) := by decide +kernel
theorem dX4_stabilise_1 : decode cX4_stabilise 1 = .ok (.iload_n 1, 1) := by decide +kernel
theorem dX4_stabilise_2 : decode cX4_stabilise 2 = .ok (.invokevirtual 86, 3) := by decide +kernel
theorem dX4_stabilise_5 : decode cX4_stabilise 5 = .ok (.ifCond .eq 12, 3) := by decide +kernel
theorem dX4_stabilise_8 : decode cX4_stabilise 8 = .ok (.aload_n 0, 1) := by decide +kernel
theorem dX4_stabilise_9 : decode cX4_stabilise 9 = .ok (.getfield 75, 3) := by decide +kernel
theorem dX4_stabilise_12 : decode cX4_stabilise 12 = .ok (.bipush 20, 2) := by decide +kernel
theorem dX4_stabilise_14 : decode cX4_stabilise 14 = .ok (.if_icmp .lt 5, 3) := by decide +kernel
theorem dX4_stabilise_17 : decode cX4_stabilise 17 = .ok (.iconst 0, 1) := by decide +kernel
theorem dX4_stabilise_18 : decode cX4_stabilise 18 = .ok (.ireturn, 1) := by decide +kernel
theorem dX4_stabilise_19 : decode cX4_stabilise 19 = .ok (.aload_n 0, 1) := by decide +kernel
theorem dX4_stabilise_20 : decode cX4_stabilise 20 = .ok (.bipush 6, 2) := by decide +kernel
theorem dX4_stabilise_22 : decode cX4_stabilise 22 = .ok (.aload_n 0, 1) := by decide +kernel
theorem dX4_stabilise_23 : decode cX4_stabilise 23 = .ok (.getfield 13, 3) := by decide +kernel
theorem dX4_stabilise_26 : decode cX4_stabilise 26 = .ok (.iload_n 1, 1) := by decide +kernel
theorem dX4_stabilise_27 : decode cX4_stabilise 27 = .ok (.iaload, 1) := by decide +kernel
theorem dX4_stabilise_28 : decode cX4_stabilise 28 = .ok (.iconst 0, 1) := by decide +kernel
theorem dX4_stabilise_29 : decode cX4_stabilise 29 = .ok (.iload_n 1, 1) := by decide +kernel
theorem dX4_stabilise_30 : decode cX4_stabilise 30 = .ok (.invokevirtual 79, 3) := by decide +kernel
theorem dX4_stabilise_33 : decode cX4_stabilise 33 = .ok (.iconst 1, 1) := by decide +kernel
theorem dX4_stabilise_34 : decode cX4_stabilise 34 = .ok (.ireturn, 1) := by decide +kernel
theorem dX4_fix_0 : decode cX4_fix 0 = .ok (.aload_n 0, 1) := by decide +kernel
theorem dX4_fix_1 : decode cX4_fix 1 = .ok (.iload_n 1, 1) := by decide +kernel
theorem dX4_fix_2 : decode cX4_fix 2 = .ok (.invokevirtual 86, 3) := by decide +kernel
theorem dX4_fix_5 : decode cX4_fix 5 = .ok (.ifCond .eq 22, 3) := by decide +kernel
theorem dX4_fix_8 : decode cX4_fix 8 = .ok (.iload_n 2, 1) := by decide +kernel
theorem dX4_fix_9 : decode cX4_fix 9 = .ok (.ifCond .lt 18, 3) := by decide +kernel
theorem dX4_fix_12 : decode cX4_fix 12 = .ok (.iload_n 2, 1) := by decide +kernel
theorem dX4_fix_13 : decode cX4_fix 13 = .ok (.bipush 7, 2) := by decide +kernel
theorem dX4_fix_15 : decode cX4_fix 15 = .ok (.if_icmp .gt 12, 3) := by decide +kernel
theorem dX4_fix_18 : decode cX4_fix 18 = .ok (.aload_n 0, 1) := by decide +kernel
theorem dX4_fix_19 : decode cX4_fix 19 = .ok (.getfield 75, 3) := by decide +kernel
theorem dX4_fix_22 : decode cX4_fix 22 = .ok (.bipush 20, 2) := by decide +kernel
theorem dX4_fix_24 : decode cX4_fix 24 = .ok (.if_icmp .lt 5, 3) := by decide +kernel
theorem dX4_fix_27 : decode cX4_fix 27 = .ok (.iconst 0, 1) := by decide +kernel
theorem dX4_fix_28 : decode cX4_fix 28 = .ok (.ireturn, 1) := by decide +kernel
theorem dX4_fix_29 : decode cX4_fix 29 = .ok (.aload_n 0, 1) := by decide +kernel
theorem dX4_fix_30 : decode cX4_fix 30 = .ok (.iload_n 1, 1) := by decide +kernel
theorem dX4_fix_31 : decode cX4_fix 31 = .ok (.iload_n 1, 1) := by decide +kernel
theorem dX4_fix_32 : decode cX4_fix 32 = .ok (.iconst 1, 1) := by decide +kernel
theorem dX4_fix_33 : decode cX4_fix 33 = .ok (.iload_n 2, 1) := by decide +kernel
theorem dX4_fix_34 : decode cX4_fix 34 = .ok (.ishl, 1) := by decide +kernel
theorem dX4_fix_35 : decode cX4_fix 35 = .ok (.iadd, 1) := by decide +kernel
theorem dX4_fix_36 : decode cX4_fix 36 = .ok (.iconst 1, 1) := by decide +kernel
theorem dX4_fix_37 : decode cX4_fix 37 = .ok (.iload_n 2, 1) := by decide +kernel
theorem dX4_fix_38 : decode cX4_fix 38 = .ok (.lconst 0, 1) := by decide +kernel
theorem dX4_fix_39 : decode cX4_fix 39 = .ok (.invokevirtual 89, 3) := by decide +kernel
theorem dX4_fix_42 : decode cX4_fix 42 = .ok (.iconst 1, 1) := by decide +kernel
theorem dX4_fix_43 : decode cX4_fix 43 = .ok (.ireturn, 1) := by decide +kernel
theorem dX4_put_0 : decode cX4_put 0 = .ok (.aload_n 0, 1) := by decide +kernel
theorem dX4_put_1 : decode cX4_put 1 = .ok (.iload_n 1, 1) := by decide +kernel
theorem dX4_put_2 : decode cX4_put 2 = .ok (.invokevirtual 86, 3) := by decide +kernel
theorem dX4_put_5 : decode cX4_put 5 = .ok (.ifCond .eq 19, 3) := by decide +kernel
theorem dX4_put_8 : decode cX4_put 8 = .ok (.iload_n 2, 1) := by decide +kernel
theorem dX4_put_9 : decode cX4_put 9 = .ok (.invokestatic 67, 3) := by decide +kernel
theorem dX4_put_12 : decode cX4_put 12 = .ok (.ifCond .eq 12, 3) := by decide +kernel
theorem dX4_put_15 : decode cX4_put 15 = .ok (.aload_n 0, 1) := by decide +kernel
theorem dX4_put_16 : decode cX4_put 16 = .ok (.getfield 75, 3) := by decide +kernel
theorem dX4_put_19 : decode cX4_put 19 = .ok (.bipush 20, 2) := by decide +kernel
theorem dX4_put_21 : decode cX4_put 21 = .ok (.if_icmp .lt 5, 3) := by decide +kernel
theorem dX4_put_24 : decode cX4_put 24 = .ok (.iconst 0, 1) := by decide +kernel
theorem dX4_put_25 : decode cX4_put 25 = .ok (.ireturn, 1) := by decide +kernel
theorem dX4_put_26 : decode cX4_put 26 = .ok (.iconst 0, 1) := by decide +kernel
theorem dX4_put_27 : decode cX4_put 27 = .ok (.istore 4, 2) := by decide +kernel
theorem dX4_put_29 : decode cX4_put 29 = .ok (.iconst 0, 1) := by decide +kernel
theorem dX4_put_30 : decode cX4_put 30 = .ok (.istore 5, 2) := by decide +kernel
theorem dX4_put_32 : decode cX4_put 32 = .ok (.iload 5, 2) := by decide +kernel
theorem dX4_put_34 : decode cX4_put 34 = .ok (.aload_n 0, 1) := by decide +kernel
theorem dX4_put_35 : decode cX4_put 35 = .ok (.getfield 93, 3) := by decide +kernel
theorem dX4_put_38 : decode cX4_put 38 = .ok (.if_icmp .ge 32, 3) := by decide +kernel
theorem dX4_put_41 : decode cX4_put 41 = .ok (.iload 4, 2) := by decide +kernel
theorem dX4_put_43 : decode cX4_put 43 = .ok (.ifCond .ne 14, 3) := by decide +kernel
theorem dX4_put_46 : decode cX4_put 46 = .ok (.aload_n 0, 1) := by decide +kernel
theorem dX4_put_47 : decode cX4_put 47 = .ok (.getfield 38, 3) := by decide +kernel
theorem dX4_put_50 : decode cX4_put 50 = .ok (.iload 5, 2) := by decide +kernel
theorem dX4_put_52 : decode cX4_put 52 = .ok (.iaload, 1) := by decide +kernel
theorem dX4_put_53 : decode cX4_put 53 = .ok (.iload_n 2, 1) := by decide +kernel
theorem dX4_put_54 : decode cX4_put 54 = .ok (.if_icmp .ne 7, 3) := by decide +kernel
theorem dX4_put_57 : decode cX4_put 57 = .ok (.iconst 1, 1) := by decide +kernel
theorem dX4_put_58 : decode cX4_put 58 = .ok (.goto 4, 3) := by decide +kernel
theorem dX4_put_61 : decode cX4_put 61 = .ok (.iconst 0, 1) := by decide +kernel
theorem dX4_put_62 : decode cX4_put 62 = .ok (.istore 4, 2) := by decide +kernel
theorem dX4_put_64 : decode cX4_put 64 = .ok (.iinc 5 1, 3) := by decide +kernel
theorem dX4_put_67 : decode cX4_put 67 = .ok (.goto (-35), 3) := by decide +kernel
theorem dX4_put_70 : decode cX4_put 70 = .ok (.iload 4, 2) := by decide +kernel
theorem dX4_put_72 : decode cX4_put 72 = .ok (.ifCond .ne 14, 3) := by decide +kernel
theorem dX4_put_75 : decode cX4_put 75 = .ok (.aload_n 0, 1) := by decide +kernel
theorem dX4_put_76 : decode cX4_put 76 = .ok (.getfield 93, 3) := by decide +kernel
theorem dX4_put_79 : decode cX4_put 79 = .ok (.bipush 10, 2) := by decide +kernel
theorem dX4_put_81 : decode cX4_put 81 = .ok (.if_icmp .lt 5, 3) := by decide +kernel
theorem dX4_put_84 : decode cX4_put 84 = .ok (.iconst 0, 1) := by decide +kernel
theorem dX4_put_85 : decode cX4_put 85 = .ok (.ireturn, 1) := by decide +kernel
theorem dX4_put_86 : decode cX4_put 86 = .ok (.iload 4, 2) := by decide +kernel
theorem dX4_put_88 : decode cX4_put 88 = .ok (.ifCond .ne 23, 3) := by decide +kernel
theorem dX4_put_91 : decode cX4_put 91 = .ok (.aload_n 0, 1) := by decide +kernel
theorem dX4_put_92 : decode cX4_put 92 = .ok (.getfield 38, 3) := by decide +kernel
theorem dX4_put_95 : decode cX4_put 95 = .ok (.aload_n 0, 1) := by decide +kernel
theorem dX4_put_96 : decode cX4_put 96 = .ok (.getfield 93, 3) := by decide +kernel
theorem dX4_put_99 : decode cX4_put 99 = .ok (.iload_n 2, 1) := by decide +kernel
theorem dX4_put_100 : decode cX4_put 100 = .ok (.iastore, 1) := by decide +kernel
theorem dX4_put_101 : decode cX4_put 101 = .ok (.aload_n 0, 1) := by decide +kernel
theorem dX4_put_102 : decode cX4_put 102 = .ok (.dup, 1) := by decide +kernel
theorem dX4_put_103 : decode cX4_put 103 = .ok (.getfield 93, 3) := by decide +kernel
theorem dX4_put_106 : decode cX4_put 106 = .ok (.iconst 1, 1) := by decide +kernel
theorem dX4_put_107 : decode cX4_put 107 = .ok (.iadd, 1) := by decide +kernel
theorem dX4_put_108 : decode cX4_put 108 = .ok (.putfield 93, 3) := by decide +kernel
theorem dX4_put_111 : decode cX4_put 111 = .ok (.aload_n 0, 1) := by decide +kernel
theorem dX4_put_112 : decode cX4_put 112 = .ok (.iload_n 1, 1) := by decide +kernel
theorem dX4_put_113 : decode cX4_put 113 = .ok (.iload_n 2, 1) := by decide +kernel
theorem dX4_put_114 : decode cX4_put 114 = .ok (.iconst 2, 1) := by decide +kernel
theorem dX4_put_115 : decode cX4_put 115 = .ok (.iconst 0, 1) := by decide +kernel
theorem dX4_put_116 : decode cX4_put 116 = .ok (.iload_n 3, 1) := by decide +kernel
theorem dX4_put_117 : decode cX4_put 117 = .ok (.i2l, 1) := by decide +kernel
theorem dX4_put_118 : decode cX4_put 118 = .ok (.invokevirtual 89, 3) := by decide +kernel
theorem dX4_put_121 : decode cX4_put 121 = .ok (.iconst 1, 1) := by decide +kernel
theorem dX4_put_122 : decode cX4_put 122 = .ok (.ireturn, 1) := by decide +kernel
theorem dX4_get_0 : decode cX4_get 0 = .ok (.aload_n 0, 1) := by decide +kernel
theorem dX4_get_1 : decode cX4_get 1 = .ok (.iload_n 1, 1) := by decide +kernel
theorem dX4_get_2 : decode cX4_get 2 = .ok (.invokevirtual 86, 3) := by decide +kernel
theorem dX4_get_5 : decode cX4_get 5 = .ok (.ifCond .eq 19, 3) := by decide +kernel
theorem dX4_get_8 : decode cX4_get 8 = .ok (.iload_n 2, 1) := by decide +kernel
theorem dX4_get_9 : decode cX4_get 9 = .ok (.invokestatic 67, 3) := by decide +kernel
theorem dX4_get_12 : decode cX4_get 12 = .ok (.ifCond .eq 12, 3) := by decide +kernel
theorem dX4_get_15 : decode cX4_get 15 = .ok (.aload_n 0, 1) := by decide +kernel
theorem dX4_get_16 : decode cX4_get 16 = .ok (.getfield 75, 3) := by decide +kernel
theorem dX4_get_19 : decode cX4_get 19 = .ok (.bipush 20, 2) := by decide +kernel
theorem dX4_get_21 : decode cX4_get 21 = .ok (.if_icmp .lt 5, 3) := by decide +kernel
theorem dX4_get_24 : decode cX4_get 24 = .ok (.iconst 0, 1) := by decide +kernel
theorem dX4_get_25 : decode cX4_get 25 = .ok (.ireturn, 1) := by decide +kernel
theorem dX4_get_26 : decode cX4_get 26 = .ok (.aload_n 0, 1) := by decide +kernel
theorem dX4_get_27 : decode cX4_get 27 = .ok (.iload_n 1, 1) := by decide +kernel
theorem dX4_get_28 : decode cX4_get 28 = .ok (.iload_n 2, 1) := by decide +kernel
theorem dX4_get_29 : decode cX4_get 29 = .ok (.iconst 3, 1) := by decide +kernel
theorem dX4_get_30 : decode cX4_get 30 = .ok (.iconst 0, 1) := by decide +kernel
theorem dX4_get_31 : decode cX4_get 31 = .ok (.lconst 0, 1) := by decide +kernel
theorem dX4_get_32 : decode cX4_get 32 = .ok (.invokevirtual 89, 3) := by decide +kernel
theorem dX4_get_35 : decode cX4_get 35 = .ok (.iconst 1, 1) := by decide +kernel
theorem dX4_get_36 : decode cX4_get 36 = .ok (.ireturn, 1) := by decide +kernel
theorem dX4_entryAt_0 : decode cX4_entryAt 0 = .ok (.iconst (-1), 1) := by decide +kernel
theorem dX4_entryAt_1 : decode cX4_entryAt 1 = .ok (.istore_n 3, 1) := by decide +kernel
theorem dX4_entryAt_2 : decode cX4_entryAt 2 = .ok (.iconst 0, 1) := by decide +kernel
theorem dX4_entryAt_3 : decode cX4_entryAt 3 = .ok (.istore 4, 2) := by decide +kernel
theorem dX4_entryAt_5 : decode cX4_entryAt 5 = .ok (.iload 4, 2) := by decide +kernel
theorem dX4_entryAt_7 : decode cX4_entryAt 7 = .ok (.aload_n 0, 1) := by decide +kernel
theorem dX4_entryAt_8 : decode cX4_entryAt 8 = .ok (.getfield 96, 3) := by decide +kernel
theorem dX4_entryAt_11 : decode cX4_entryAt 11 = .ok (.if_icmp .ge 38, 3) := by decide +kernel
theorem dX4_entryAt_14 : decode cX4_entryAt 14 = .ok (.aload_n 0, 1) := by decide +kernel
theorem dX4_entryAt_15 : decode cX4_entryAt 15 = .ok (.getfield 29, 3) := by decide +kernel
theorem dX4_entryAt_18 : decode cX4_entryAt 18 = .ok (.iload 4, 2) := by decide +kernel
theorem dX4_entryAt_20 : decode cX4_entryAt 20 = .ok (.iaload, 1) := by decide +kernel
theorem dX4_entryAt_21 : decode cX4_entryAt 21 = .ok (.iload_n 1, 1) := by decide +kernel
theorem dX4_entryAt_22 : decode cX4_entryAt 22 = .ok (.if_icmp .ne 19, 3) := by decide +kernel
theorem dX4_entryAt_25 : decode cX4_entryAt 25 = .ok (.aload_n 0, 1) := by decide +kernel
theorem dX4_entryAt_26 : decode cX4_entryAt 26 = .ok (.getfield 32, 3) := by decide +kernel
theorem dX4_entryAt_29 : decode cX4_entryAt 29 = .ok (.iload 4, 2) := by decide +kernel
theorem dX4_entryAt_31 : decode cX4_entryAt 31 = .ok (.iaload, 1) := by decide +kernel
theorem dX4_entryAt_32 : decode cX4_entryAt 32 = .ok (.iload_n 2, 1) := by decide +kernel
theorem dX4_entryAt_33 : decode cX4_entryAt 33 = .ok (.if_icmp .ne 8, 3) := by decide +kernel
theorem dX4_entryAt_36 : decode cX4_entryAt 36 = .ok (.iload 4, 2) := by decide +kernel
theorem dX4_entryAt_38 : decode cX4_entryAt 38 = .ok (.goto 4, 3) := by decide +kernel
theorem dX4_entryAt_41 : decode cX4_entryAt 41 = .ok (.iload_n 3, 1) := by decide +kernel
theorem dX4_entryAt_42 : decode cX4_entryAt 42 = .ok (.istore_n 3, 1) := by decide +kernel
theorem dX4_entryAt_43 : decode cX4_entryAt 43 = .ok (.iinc 4 1, 3) := by decide +kernel
theorem dX4_entryAt_46 : decode cX4_entryAt 46 = .ok (.goto (-41), 3) := by decide +kernel
theorem dX4_entryAt_49 : decode cX4_entryAt 49 = .ok (.iload_n 3, 1) := by decide +kernel
theorem dX4_entryAt_50 : decode cX4_entryAt 50 = .ok (.ireturn, 1) := by decide +kernel
theorem dX4_keep_0 : decode cX4_keep 0 = .ok (.aload_n 0, 1) := by decide +kernel
theorem dX4_keep_1 : decode cX4_keep 1 = .ok (.iload_n 1, 1) := by decide +kernel
theorem dX4_keep_2 : decode cX4_keep 2 = .ok (.iload_n 2, 1) := by decide +kernel
theorem dX4_keep_3 : decode cX4_keep 3 = .ok (.invokevirtual 99, 3) := by decide +kernel
theorem dX4_keep_6 : decode cX4_keep 6 = .ok (.istore 4, 2) := by decide +kernel
theorem dX4_keep_8 : decode cX4_keep 8 = .ok (.iload 4, 2) := by decide +kernel
theorem dX4_keep_10 : decode cX4_keep 10 = .ok (.ifCond .ge 35, 3) := by decide +kernel
theorem dX4_keep_13 : decode cX4_keep 13 = .ok (.aload_n 0, 1) := by decide +kernel
theorem dX4_keep_14 : decode cX4_keep 14 = .ok (.getfield 96, 3) := by decide +kernel
theorem dX4_keep_17 : decode cX4_keep 17 = .ok (.istore 4, 2) := by decide +kernel
theorem dX4_keep_19 : decode cX4_keep 19 = .ok (.aload_n 0, 1) := by decide +kernel
theorem dX4_keep_20 : decode cX4_keep 20 = .ok (.dup, 1) := by decide +kernel
theorem dX4_keep_21 : decode cX4_keep 21 = .ok (.getfield 96, 3) := by decide +kernel
theorem dX4_keep_24 : decode cX4_keep 24 = .ok (.iconst 1, 1) := by decide +kernel
theorem dX4_keep_25 : decode cX4_keep 25 = .ok (.iadd, 1) := by decide +kernel
theorem dX4_keep_26 : decode cX4_keep 26 = .ok (.putfield 96, 3) := by decide +kernel
theorem dX4_keep_29 : decode cX4_keep 29 = .ok (.aload_n 0, 1) := by decide +kernel
theorem dX4_keep_30 : decode cX4_keep 30 = .ok (.getfield 29, 3) := by decide +kernel
theorem dX4_keep_33 : decode cX4_keep 33 = .ok (.iload 4, 2) := by decide +kernel
theorem dX4_keep_35 : decode cX4_keep 35 = .ok (.iload_n 1, 1) := by decide +kernel
theorem dX4_keep_36 : decode cX4_keep 36 = .ok (.iastore, 1) := by decide +kernel
theorem dX4_keep_37 : decode cX4_keep 37 = .ok (.aload_n 0, 1) := by decide +kernel
theorem dX4_keep_38 : decode cX4_keep 38 = .ok (.getfield 32, 3) := by decide +kernel
theorem dX4_keep_41 : decode cX4_keep 41 = .ok (.iload 4, 2) := by decide +kernel
theorem dX4_keep_43 : decode cX4_keep 43 = .ok (.iload_n 2, 1) := by decide +kernel
theorem dX4_keep_44 : decode cX4_keep 44 = .ok (.iastore, 1) := by decide +kernel
theorem dX4_keep_45 : decode cX4_keep 45 = .ok (.aload_n 0, 1) := by decide +kernel
theorem dX4_keep_46 : decode cX4_keep 46 = .ok (.getfield 35, 3) := by decide +kernel
theorem dX4_keep_49 : decode cX4_keep 49 = .ok (.iload 4, 2) := by decide +kernel
theorem dX4_keep_51 : decode cX4_keep 51 = .ok (.iload_n 3, 1) := by decide +kernel
theorem dX4_keep_52 : decode cX4_keep 52 = .ok (.iastore, 1) := by decide +kernel
theorem dX4_keep_53 : decode cX4_keep 53 = .ok (.return_, 1) := by decide +kernel
theorem dX4_dropEntry_0 : decode cX4_dropEntry 0 = .ok (.aload_n 0, 1) := by decide +kernel
theorem dX4_dropEntry_1 : decode cX4_dropEntry 1 = .ok (.dup, 1) := by decide +kernel
theorem dX4_dropEntry_2 : decode cX4_dropEntry 2 = .ok (.getfield 96, 3) := by decide +kernel
theorem dX4_dropEntry_5 : decode cX4_dropEntry 5 = .ok (.iconst 1, 1) := by decide +kernel
theorem dX4_dropEntry_6 : decode cX4_dropEntry 6 = .ok (.isub, 1) := by decide +kernel
theorem dX4_dropEntry_7 : decode cX4_dropEntry 7 = .ok (.putfield 96, 3) := by decide +kernel
theorem dX4_dropEntry_10 : decode cX4_dropEntry 10 = .ok (.iload_n 1, 1) := by decide +kernel
theorem dX4_dropEntry_11 : decode cX4_dropEntry 11 = .ok (.istore_n 2, 1) := by decide +kernel
theorem dX4_dropEntry_12 : decode cX4_dropEntry 12 = .ok (.iload_n 2, 1) := by decide +kernel
theorem dX4_dropEntry_13 : decode cX4_dropEntry 13 = .ok (.aload_n 0, 1) := by decide +kernel
theorem dX4_dropEntry_14 : decode cX4_dropEntry 14 = .ok (.getfield 96, 3) := by decide +kernel
theorem dX4_dropEntry_17 : decode cX4_dropEntry 17 = .ok (.if_icmp .ge 51, 3) := by decide +kernel
theorem dX4_dropEntry_20 : decode cX4_dropEntry 20 = .ok (.aload_n 0, 1) := by decide +kernel
theorem dX4_dropEntry_21 : decode cX4_dropEntry 21 = .ok (.getfield 29, 3) := by decide +kernel
theorem dX4_dropEntry_24 : decode cX4_dropEntry 24 = .ok (.iload_n 2, 1) := by decide +kernel
theorem dX4_dropEntry_25 : decode cX4_dropEntry 25 = .ok (.aload_n 0, 1) := by decide +kernel
theorem dX4_dropEntry_26 : decode cX4_dropEntry 26 = .ok (.getfield 29, 3) := by decide +kernel
theorem dX4_dropEntry_29 : decode cX4_dropEntry 29 = .ok (.iload_n 2, 1) := by decide +kernel
theorem dX4_dropEntry_30 : decode cX4_dropEntry 30 = .ok (.iconst 1, 1) := by decide +kernel
theorem dX4_dropEntry_31 : decode cX4_dropEntry 31 = .ok (.iadd, 1) := by decide +kernel
theorem dX4_dropEntry_32 : decode cX4_dropEntry 32 = .ok (.iaload, 1) := by decide +kernel
theorem dX4_dropEntry_33 : decode cX4_dropEntry 33 = .ok (.iastore, 1) := by decide +kernel
theorem dX4_dropEntry_34 : decode cX4_dropEntry 34 = .ok (.aload_n 0, 1) := by decide +kernel
theorem dX4_dropEntry_35 : decode cX4_dropEntry 35 = .ok (.getfield 32, 3) := by decide +kernel
theorem dX4_dropEntry_38 : decode cX4_dropEntry 38 = .ok (.iload_n 2, 1) := by decide +kernel
theorem dX4_dropEntry_39 : decode cX4_dropEntry 39 = .ok (.aload_n 0, 1) := by decide +kernel
theorem dX4_dropEntry_40 : decode cX4_dropEntry 40 = .ok (.getfield 32, 3) := by decide +kernel
theorem dX4_dropEntry_43 : decode cX4_dropEntry 43 = .ok (.iload_n 2, 1) := by decide +kernel
theorem dX4_dropEntry_44 : decode cX4_dropEntry 44 = .ok (.iconst 1, 1) := by decide +kernel
theorem dX4_dropEntry_45 : decode cX4_dropEntry 45 = .ok (.iadd, 1) := by decide +kernel
theorem dX4_dropEntry_46 : decode cX4_dropEntry 46 = .ok (.iaload, 1) := by decide +kernel
theorem dX4_dropEntry_47 : decode cX4_dropEntry 47 = .ok (.iastore, 1) := by decide +kernel
theorem dX4_dropEntry_48 : decode cX4_dropEntry 48 = .ok (.aload_n 0, 1) := by decide +kernel
theorem dX4_dropEntry_49 : decode cX4_dropEntry 49 = .ok (.getfield 35, 3) := by decide +kernel
theorem dX4_dropEntry_52 : decode cX4_dropEntry 52 = .ok (.iload_n 2, 1) := by decide +kernel
theorem dX4_dropEntry_53 : decode cX4_dropEntry 53 = .ok (.aload_n 0, 1) := by decide +kernel
theorem dX4_dropEntry_54 : decode cX4_dropEntry 54 = .ok (.getfield 35, 3) := by decide +kernel
theorem dX4_dropEntry_57 : decode cX4_dropEntry 57 = .ok (.iload_n 2, 1) := by decide +kernel
theorem dX4_dropEntry_58 : decode cX4_dropEntry 58 = .ok (.iconst 1, 1) := by decide +kernel
theorem dX4_dropEntry_59 : decode cX4_dropEntry 59 = .ok (.iadd, 1) := by decide +kernel
theorem dX4_dropEntry_60 : decode cX4_dropEntry 60 = .ok (.iaload, 1) := by decide +kernel
theorem dX4_dropEntry_61 : decode cX4_dropEntry 61 = .ok (.iastore, 1) := by decide +kernel
theorem dX4_dropEntry_62 : decode cX4_dropEntry 62 = .ok (.iinc 2 1, 3) := by decide +kernel
theorem dX4_dropEntry_65 : decode cX4_dropEntry 65 = .ok (.goto (-53), 3) := by decide +kernel
theorem dX4_dropEntry_68 : decode cX4_dropEntry 68 = .ok (.return_, 1) := by decide +kernel
theorem dX4_handOver_0 : decode cX4_handOver 0 = .ok (.iconst 0, 1) := by decide +kernel
theorem dX4_handOver_1 : decode cX4_handOver 1 = .ok (.istore_n 3, 1) := by decide +kernel
theorem dX4_handOver_2 : decode cX4_handOver 2 = .ok (.iload_n 3, 1) := by decide +kernel
theorem dX4_handOver_3 : decode cX4_handOver 3 = .ok (.aload_n 0, 1) := by decide +kernel
theorem dX4_handOver_4 : decode cX4_handOver 4 = .ok (.getfield 96, 3) := by decide +kernel
theorem dX4_handOver_7 : decode cX4_handOver 7 = .ok (.if_icmp .ge 68, 3) := by decide +kernel
theorem dX4_handOver_10 : decode cX4_handOver 10 = .ok (.aload_n 0, 1) := by decide +kernel
theorem dX4_handOver_11 : decode cX4_handOver 11 = .ok (.getfield 29, 3) := by decide +kernel
theorem dX4_handOver_14 : decode cX4_handOver 14 = .ok (.iload_n 3, 1) := by decide +kernel
theorem dX4_handOver_15 : decode cX4_handOver 15 = .ok (.iaload, 1) := by decide +kernel
theorem dX4_handOver_16 : decode cX4_handOver 16 = .ok (.iload_n 1, 1) := by decide +kernel
theorem dX4_handOver_17 : decode cX4_handOver 17 = .ok (.if_icmp .ne 52, 3) := by decide +kernel
theorem dX4_handOver_20 : decode cX4_handOver 20 = .ok (.aload_n 0, 1) := by decide +kernel
theorem dX4_handOver_21 : decode cX4_handOver 21 = .ok (.getfield 32, 3) := by decide +kernel
theorem dX4_handOver_24 : decode cX4_handOver 24 = .ok (.iload_n 3, 1) := by decide +kernel
theorem dX4_handOver_25 : decode cX4_handOver 25 = .ok (.iaload, 1) := by decide +kernel
theorem dX4_handOver_26 : decode cX4_handOver 26 = .ok (.iload_n 2, 1) := by decide +kernel
theorem dX4_handOver_27 : decode cX4_handOver 27 = .ok (.iload_n 1, 1) := by decide +kernel
theorem dX4_handOver_28 : decode cX4_handOver 28 = .ok (.invokestatic 71, 3) := by decide +kernel
theorem dX4_handOver_31 : decode cX4_handOver 31 = .ok (.ifCond .ne 38, 3) := by decide +kernel
theorem dX4_handOver_34 : decode cX4_handOver 34 = .ok (.aload_n 0, 1) := by decide +kernel
theorem dX4_handOver_35 : decode cX4_handOver 35 = .ok (.getfield 32, 3) := by decide +kernel
theorem dX4_handOver_38 : decode cX4_handOver 38 = .ok (.iload_n 3, 1) := by decide +kernel
theorem dX4_handOver_39 : decode cX4_handOver 39 = .ok (.iaload, 1) := by decide +kernel
theorem dX4_handOver_40 : decode cX4_handOver 40 = .ok (.istore 4, 2) := by decide +kernel
theorem dX4_handOver_42 : decode cX4_handOver 42 = .ok (.aload_n 0, 1) := by decide +kernel
theorem dX4_handOver_43 : decode cX4_handOver 43 = .ok (.getfield 35, 3) := by decide +kernel
theorem dX4_handOver_46 : decode cX4_handOver 46 = .ok (.iload_n 3, 1) := by decide +kernel
theorem dX4_handOver_47 : decode cX4_handOver 47 = .ok (.iaload, 1) := by decide +kernel
theorem dX4_handOver_48 : decode cX4_handOver 48 = .ok (.istore 5, 2) := by decide +kernel
theorem dX4_handOver_50 : decode cX4_handOver 50 = .ok (.aload_n 0, 1) := by decide +kernel
theorem dX4_handOver_51 : decode cX4_handOver 51 = .ok (.iload_n 3, 1) := by decide +kernel
theorem dX4_handOver_52 : decode cX4_handOver 52 = .ok (.invokevirtual 103, 3) := by decide +kernel
theorem dX4_handOver_55 : decode cX4_handOver 55 = .ok (.aload_n 0, 1) := by decide +kernel
theorem dX4_handOver_56 : decode cX4_handOver 56 = .ok (.iload_n 2, 1) := by decide +kernel
theorem dX4_handOver_57 : decode cX4_handOver 57 = .ok (.iload 4, 2) := by decide +kernel
theorem dX4_handOver_59 : decode cX4_handOver 59 = .ok (.iload 5, 2) := by decide +kernel
theorem dX4_handOver_61 : decode cX4_handOver 61 = .ok (.invokevirtual 107, 3) := by decide +kernel
theorem dX4_handOver_64 : decode cX4_handOver 64 = .ok (.iconst 0, 1) := by decide +kernel
theorem dX4_handOver_65 : decode cX4_handOver 65 = .ok (.istore_n 3, 1) := by decide +kernel
theorem dX4_handOver_66 : decode cX4_handOver 66 = .ok (.goto (-64), 3) := by decide +kernel
theorem dX4_handOver_69 : decode cX4_handOver 69 = .ok (.iinc 3 1, 3) := by decide +kernel
theorem dX4_handOver_72 : decode cX4_handOver 72 = .ok (.goto (-70), 3) := by decide +kernel
theorem dX4_handOver_75 : decode cX4_handOver 75 = .ok (.return_, 1) := by decide +kernel
theorem dX4_arrive_0 : decode cX4_arrive 0 = .ok (.aload_n 0, 1) := by decide +kernel
theorem dX4_arrive_1 : decode cX4_arrive 1 = .ok (.iload_n 1, 1) := by decide +kernel
theorem dX4_arrive_2 : decode cX4_arrive 2 = .ok (.bipush 20, 2) := by decide +kernel
theorem dX4_arrive_4 : decode cX4_arrive 4 = .ok (.invokevirtual 111, 3) := by decide +kernel
theorem dX4_arrive_7 : decode cX4_arrive 7 = .ok (.aload_n 0, 1) := by decide +kernel
theorem dX4_arrive_8 : decode cX4_arrive 8 = .ok (.dup, 1) := by decide +kernel
theorem dX4_arrive_9 : decode cX4_arrive 9 = .ok (.getfield 75, 3) := by decide +kernel
theorem dX4_arrive_12 : decode cX4_arrive 12 = .ok (.iconst 1, 1) := by decide +kernel
theorem dX4_arrive_13 : decode cX4_arrive 13 = .ok (.isub, 1) := by decide +kernel
theorem dX4_arrive_14 : decode cX4_arrive 14 = .ok (.putfield 75, 3) := by decide +kernel
theorem dX4_arrive_17 : decode cX4_arrive 17 = .ok (.iload_n 1, 1) := by decide +kernel
theorem dX4_arrive_18 : decode cX4_arrive 18 = .ok (.istore_n 2, 1) := by decide +kernel
theorem dX4_arrive_19 : decode cX4_arrive 19 = .ok (.iload_n 2, 1) := by decide +kernel
theorem dX4_arrive_20 : decode cX4_arrive 20 = .ok (.aload_n 0, 1) := by decide +kernel
theorem dX4_arrive_21 : decode cX4_arrive 21 = .ok (.getfield 75, 3) := by decide +kernel
theorem dX4_arrive_24 : decode cX4_arrive 24 = .ok (.if_icmp .ge 17, 3) := by decide +kernel
theorem dX4_arrive_27 : decode cX4_arrive 27 = .ok (.aload_n 0, 1) := by decide +kernel
theorem dX4_arrive_28 : decode cX4_arrive 28 = .ok (.iload_n 2, 1) := by decide +kernel
theorem dX4_arrive_29 : decode cX4_arrive 29 = .ok (.iconst 1, 1) := by decide +kernel
theorem dX4_arrive_30 : decode cX4_arrive 30 = .ok (.iadd, 1) := by decide +kernel
theorem dX4_arrive_31 : decode cX4_arrive 31 = .ok (.iload_n 2, 1) := by decide +kernel
theorem dX4_arrive_32 : decode cX4_arrive 32 = .ok (.invokevirtual 111, 3) := by decide +kernel
theorem dX4_arrive_35 : decode cX4_arrive 35 = .ok (.iinc 2 1, 3) := by decide +kernel
theorem dX4_arrive_38 : decode cX4_arrive 38 = .ok (.goto (-19), 3) := by decide +kernel
theorem dX4_arrive_41 : decode cX4_arrive 41 = .ok (.aload_n 0, 1) := by decide +kernel
theorem dX4_arrive_42 : decode cX4_arrive 42 = .ok (.getfield 44, 3) := by decide +kernel
theorem dX4_arrive_45 : decode cX4_arrive 45 = .ok (.bipush 20, 2) := by decide +kernel
theorem dX4_arrive_47 : decode cX4_arrive 47 = .ok (.iaload, 1) := by decide +kernel
theorem dX4_arrive_48 : decode cX4_arrive 48 = .ok (.istore_n 2, 1) := by decide +kernel
theorem dX4_arrive_49 : decode cX4_arrive 49 = .ok (.aload_n 0, 1) := by decide +kernel
theorem dX4_arrive_50 : decode cX4_arrive 50 = .ok (.getfield 41, 3) := by decide +kernel
theorem dX4_arrive_53 : decode cX4_arrive 53 = .ok (.bipush 20, 2) := by decide +kernel
theorem dX4_arrive_55 : decode cX4_arrive 55 = .ok (.iaload, 1) := by decide +kernel
theorem dX4_arrive_56 : decode cX4_arrive 56 = .ok (.tableswitch 164 1 7 #[44, 52, 60, 83, 91, 120, 156], 44) := by decide +kernel
theorem dX4_arrive_100 : decode cX4_arrive 100 = .ok (.aload_n 0, 1) := by decide +kernel
theorem dX4_arrive_101 : decode cX4_arrive 101 = .ok (.iload_n 2, 1) := by decide +kernel
theorem dX4_arrive_102 : decode cX4_arrive 102 = .ok (.invokevirtual 115, 3) := by decide +kernel
theorem dX4_arrive_105 : decode cX4_arrive 105 = .ok (.goto 120, 3) := by decide +kernel
theorem dX4_arrive_108 : decode cX4_arrive 108 = .ok (.aload_n 0, 1) := by decide +kernel
theorem dX4_arrive_109 : decode cX4_arrive 109 = .ok (.iload_n 2, 1) := by decide +kernel
theorem dX4_arrive_110 : decode cX4_arrive 110 = .ok (.invokevirtual 118, 3) := by decide +kernel
theorem dX4_arrive_113 : decode cX4_arrive 113 = .ok (.goto 112, 3) := by decide +kernel
theorem dX4_arrive_116 : decode cX4_arrive 116 = .ok (.aload_n 0, 1) := by decide +kernel
theorem dX4_arrive_117 : decode cX4_arrive 117 = .ok (.iload_n 2, 1) := by decide +kernel
theorem dX4_arrive_118 : decode cX4_arrive 118 = .ok (.aload_n 0, 1) := by decide +kernel
theorem dX4_arrive_119 : decode cX4_arrive 119 = .ok (.getfield 47, 3) := by decide +kernel
theorem dX4_arrive_122 : decode cX4_arrive 122 = .ok (.bipush 20, 2) := by decide +kernel
theorem dX4_arrive_124 : decode cX4_arrive 124 = .ok (.iaload, 1) := by decide +kernel
theorem dX4_arrive_125 : decode cX4_arrive 125 = .ok (.aload_n 0, 1) := by decide +kernel
theorem dX4_arrive_126 : decode cX4_arrive 126 = .ok (.getfield 62, 3) := by decide +kernel
theorem dX4_arrive_129 : decode cX4_arrive 129 = .ok (.bipush 20, 2) := by decide +kernel
theorem dX4_arrive_131 : decode cX4_arrive 131 = .ok (.laload, 1) := by decide +kernel
theorem dX4_arrive_132 : decode cX4_arrive 132 = .ok (.l2i, 1) := by decide +kernel
theorem dX4_arrive_133 : decode cX4_arrive 133 = .ok (.invokevirtual 107, 3) := by decide +kernel
theorem dX4_arrive_136 : decode cX4_arrive 136 = .ok (.goto 89, 3) := by decide +kernel
theorem dX4_arrive_139 : decode cX4_arrive 139 = .ok (.aload_n 0, 1) := by decide +kernel
theorem dX4_arrive_140 : decode cX4_arrive 140 = .ok (.iload_n 2, 1) := by decide +kernel
theorem dX4_arrive_141 : decode cX4_arrive 141 = .ok (.invokevirtual 121, 3) := by decide +kernel
theorem dX4_arrive_144 : decode cX4_arrive 144 = .ok (.goto 81, 3) := by decide +kernel
theorem dX4_arrive_147 : decode cX4_arrive 147 = .ok (.aload_n 0, 1) := by decide +kernel
theorem dX4_arrive_148 : decode cX4_arrive 148 = .ok (.getfield 22, 3) := by decide +kernel
theorem dX4_arrive_151 : decode cX4_arrive 151 = .ok (.iload_n 2, 1) := by decide +kernel
theorem dX4_arrive_152 : decode cX4_arrive 152 = .ok (.aload_n 0, 1) := by decide +kernel
theorem dX4_arrive_153 : decode cX4_arrive 153 = .ok (.getfield 62, 3) := by decide +kernel
theorem dX4_arrive_156 : decode cX4_arrive 156 = .ok (.bipush 20, 2) := by decide +kernel
theorem dX4_arrive_158 : decode cX4_arrive 158 = .ok (.laload, 1) := by decide +kernel
theorem dX4_arrive_159 : decode cX4_arrive 159 = .ok (.lastore, 1) := by decide +kernel
theorem dX4_arrive_160 : decode cX4_arrive 160 = .ok (.aload_n 0, 1) := by decide +kernel
theorem dX4_arrive_161 : decode cX4_arrive 161 = .ok (.getfield 26, 3) := by decide +kernel
theorem dX4_arrive_164 : decode cX4_arrive 164 = .ok (.iload_n 2, 1) := by decide +kernel
theorem dX4_arrive_165 : decode cX4_arrive 165 = .ok (.aload_n 0, 1) := by decide +kernel
theorem dX4_arrive_166 : decode cX4_arrive 166 = .ok (.getfield 59, 3) := by decide +kernel
theorem dX4_arrive_169 : decode cX4_arrive 169 = .ok (.bipush 20, 2) := by decide +kernel
theorem dX4_arrive_171 : decode cX4_arrive 171 = .ok (.iaload, 1) := by decide +kernel
theorem dX4_arrive_172 : decode cX4_arrive 172 = .ok (.iastore, 1) := by decide +kernel
theorem dX4_arrive_173 : decode cX4_arrive 173 = .ok (.goto 52, 3) := by decide +kernel
theorem dX4_arrive_176 : decode cX4_arrive 176 = .ok (.aload_n 0, 1) := by decide +kernel
theorem dX4_arrive_177 : decode cX4_arrive 177 = .ok (.bipush 7, 2) := by decide +kernel
theorem dX4_arrive_179 : decode cX4_arrive 179 = .ok (.aload_n 0, 1) := by decide +kernel
theorem dX4_arrive_180 : decode cX4_arrive 180 = .ok (.getfield 56, 3) := by decide +kernel
theorem dX4_arrive_183 : decode cX4_arrive 183 = .ok (.bipush 20, 2) := by decide +kernel
theorem dX4_arrive_185 : decode cX4_arrive 185 = .ok (.iaload, 1) := by decide +kernel
theorem dX4_arrive_186 : decode cX4_arrive 186 = .ok (.iconst 0, 1) := by decide +kernel
theorem dX4_arrive_187 : decode cX4_arrive 187 = .ok (.iconst 0, 1) := by decide +kernel
theorem dX4_arrive_188 : decode cX4_arrive 188 = .ok (.invokevirtual 79, 3) := by decide +kernel
theorem dX4_arrive_191 : decode cX4_arrive 191 = .ok (.aload_n 0, 1) := by decide +kernel
theorem dX4_arrive_192 : decode cX4_arrive 192 = .ok (.getfield 62, 3) := by decide +kernel
theorem dX4_arrive_195 : decode cX4_arrive 195 = .ok (.aload_n 0, 1) := by decide +kernel
theorem dX4_arrive_196 : decode cX4_arrive 196 = .ok (.getfield 75, 3) := by decide +kernel
theorem dX4_arrive_199 : decode cX4_arrive 199 = .ok (.iconst 1, 1) := by decide +kernel
theorem dX4_arrive_200 : decode cX4_arrive 200 = .ok (.isub, 1) := by decide +kernel
theorem dX4_arrive_201 : decode cX4_arrive 201 = .ok (.aload_n 0, 1) := by decide +kernel
theorem dX4_arrive_202 : decode cX4_arrive 202 = .ok (.getfield 16, 3) := by decide +kernel
theorem dX4_arrive_205 : decode cX4_arrive 205 = .ok (.iload_n 2, 1) := by decide +kernel
theorem dX4_arrive_206 : decode cX4_arrive 206 = .ok (.iaload, 1) := by decide +kernel
theorem dX4_arrive_207 : decode cX4_arrive 207 = .ok (.i2l, 1) := by decide +kernel
theorem dX4_arrive_208 : decode cX4_arrive 208 = .ok (.lastore, 1) := by decide +kernel
theorem dX4_arrive_209 : decode cX4_arrive 209 = .ok (.goto 16, 3) := by decide +kernel
theorem dX4_arrive_212 : decode cX4_arrive 212 = .ok (.aload_n 0, 1) := by decide +kernel
theorem dX4_arrive_213 : decode cX4_arrive 213 = .ok (.iload_n 2, 1) := by decide +kernel
theorem dX4_arrive_214 : decode cX4_arrive 214 = .ok (.invokevirtual 124, 3) := by decide +kernel
theorem dX4_arrive_217 : decode cX4_arrive 217 = .ok (.goto 8, 3) := by decide +kernel
theorem dX4_arrive_220 : decode cX4_arrive 220 = .ok (.aload_n 0, 1) := by decide +kernel
theorem dX4_arrive_221 : decode cX4_arrive 221 = .ok (.iload_n 2, 1) := by decide +kernel
theorem dX4_arrive_222 : decode cX4_arrive 222 = .ok (.invokevirtual 127, 3) := by decide +kernel
theorem dX4_arrive_225 : decode cX4_arrive 225 = .ok (.return_, 1) := by decide +kernel
theorem dX4_find_0 : decode cX4_find 0 = .ok (.aload_n 0, 1) := by decide +kernel
theorem dX4_find_1 : decode cX4_find 1 = .ok (.getfield 13, 3) := by decide +kernel
theorem dX4_find_4 : decode cX4_find 4 = .ok (.iload_n 1, 1) := by decide +kernel
theorem dX4_find_5 : decode cX4_find 5 = .ok (.iaload, 1) := by decide +kernel
theorem dX4_find_6 : decode cX4_find 6 = .ok (.istore_n 2, 1) := by decide +kernel
theorem dX4_find_7 : decode cX4_find 7 = .ok (.aload_n 0, 1) := by decide +kernel
theorem dX4_find_8 : decode cX4_find 8 = .ok (.getfield 47, 3) := by decide +kernel
theorem dX4_find_11 : decode cX4_find 11 = .ok (.bipush 20, 2) := by decide +kernel
theorem dX4_find_13 : decode cX4_find 13 = .ok (.iaload, 1) := by decide +kernel
theorem dX4_find_14 : decode cX4_find 14 = .ok (.iload_n 1, 1) := by decide +kernel
theorem dX4_find_15 : decode cX4_find 15 = .ok (.iload_n 2, 1) := by decide +kernel
theorem dX4_find_16 : decode cX4_find 16 = .ok (.invokestatic 71, 3) := by decide +kernel
theorem dX4_find_19 : decode cX4_find 19 = .ok (.ifCond .ne 113, 3) := by decide +kernel
theorem dX4_find_22 : decode cX4_find 22 = .ok (.iload_n 2, 1) := by decide +kernel
theorem dX4_find_23 : decode cX4_find 23 = .ok (.istore_n 3, 1) := by decide +kernel
theorem dX4_find_24 : decode cX4_find 24 = .ok (.iconst 0, 1) := by decide +kernel
theorem dX4_find_25 : decode cX4_find 25 = .ok (.istore 4, 2) := by decide +kernel
theorem dX4_find_27 : decode cX4_find 27 = .ok (.iload 4, 2) := by decide +kernel
theorem dX4_find_29 : decode cX4_find 29 = .ok (.bipush 8, 2) := by decide +kernel
theorem dX4_find_31 : decode cX4_find 31 = .ok (.if_icmp .ge 52, 3) := by decide +kernel
theorem dX4_find_34 : decode cX4_find 34 = .ok (.aload_n 0, 1) := by decide +kernel
theorem dX4_find_35 : decode cX4_find 35 = .ok (.getfield 19, 3) := by decide +kernel
theorem dX4_find_38 : decode cX4_find 38 = .ok (.bipush 8, 2) := by decide +kernel
theorem dX4_find_40 : decode cX4_find 40 = .ok (.iload_n 1, 1) := by decide +kernel
theorem dX4_find_41 : decode cX4_find 41 = .ok (.imul, 1) := by decide +kernel
theorem dX4_find_42 : decode cX4_find 42 = .ok (.iload 4, 2) := by decide +kernel
theorem dX4_find_44 : decode cX4_find 44 = .ok (.iadd, 1) := by decide +kernel
theorem dX4_find_45 : decode cX4_find 45 = .ok (.iaload, 1) := by decide +kernel
theorem dX4_find_46 : decode cX4_find 46 = .ok (.istore 5, 2) := by decide +kernel
theorem dX4_find_48 : decode cX4_find 48 = .ok (.iload 5, 2) := by decide +kernel
theorem dX4_find_50 : decode cX4_find 50 = .ok (.iconst (-1), 1) := by decide +kernel
theorem dX4_find_51 : decode cX4_find 51 = .ok (.if_icmp .eq 24, 3) := by decide +kernel
theorem dX4_find_54 : decode cX4_find 54 = .ok (.iload 5, 2) := by decide +kernel
theorem dX4_find_56 : decode cX4_find 56 = .ok (.iload_n 1, 1) := by decide +kernel
theorem dX4_find_57 : decode cX4_find 57 = .ok (.aload_n 0, 1) := by decide +kernel
theorem dX4_find_58 : decode cX4_find 58 = .ok (.getfield 47, 3) := by decide +kernel
theorem dX4_find_61 : decode cX4_find 61 = .ok (.bipush 20, 2) := by decide +kernel
theorem dX4_find_63 : decode cX4_find 63 = .ok (.iaload, 1) := by decide +kernel
theorem dX4_find_64 : decode cX4_find 64 = .ok (.invokestatic 130, 3) := by decide +kernel
theorem dX4_find_67 : decode cX4_find 67 = .ok (.ifCond .eq 8, 3) := by decide +kernel
theorem dX4_find_70 : decode cX4_find 70 = .ok (.iload 5, 2) := by decide +kernel
theorem dX4_find_72 : decode cX4_find 72 = .ok (.goto 4, 3) := by decide +kernel
theorem dX4_find_75 : decode cX4_find 75 = .ok (.iload_n 3, 1) := by decide +kernel
theorem dX4_find_76 : decode cX4_find 76 = .ok (.istore_n 3, 1) := by decide +kernel
theorem dX4_find_77 : decode cX4_find 77 = .ok (.iinc 4 1, 3) := by decide +kernel
theorem dX4_find_80 : decode cX4_find 80 = .ok (.goto (-53), 3) := by decide +kernel
theorem dX4_find_83 : decode cX4_find 83 = .ok (.aload_n 0, 1) := by decide +kernel
theorem dX4_find_84 : decode cX4_find 84 = .ok (.bipush 20, 2) := by decide +kernel
theorem dX4_find_86 : decode cX4_find 86 = .ok (.aload_n 0, 1) := by decide +kernel
theorem dX4_find_87 : decode cX4_find 87 = .ok (.getfield 75, 3) := by decide +kernel
theorem dX4_find_90 : decode cX4_find 90 = .ok (.invokevirtual 111, 3) := by decide +kernel
theorem dX4_find_93 : decode cX4_find 93 = .ok (.aload_n 0, 1) := by decide +kernel
theorem dX4_find_94 : decode cX4_find 94 = .ok (.getfield 44, 3) := by decide +kernel
theorem dX4_find_97 : decode cX4_find 97 = .ok (.aload_n 0, 1) := by decide +kernel
theorem dX4_find_98 : decode cX4_find 98 = .ok (.getfield 75, 3) := by decide +kernel
theorem dX4_find_101 : decode cX4_find 101 = .ok (.iload_n 3, 1) := by decide +kernel
theorem dX4_find_102 : decode cX4_find 102 = .ok (.iastore, 1) := by decide +kernel
theorem dX4_find_103 : decode cX4_find 103 = .ok (.aload_n 0, 1) := by decide +kernel
theorem dX4_find_104 : decode cX4_find 104 = .ok (.getfield 59, 3) := by decide +kernel
theorem dX4_find_107 : decode cX4_find 107 = .ok (.aload_n 0, 1) := by decide +kernel
theorem dX4_find_108 : decode cX4_find 108 = .ok (.getfield 75, 3) := by decide +kernel
theorem dX4_find_111 : decode cX4_find 111 = .ok (.aload_n 0, 1) := by decide +kernel
theorem dX4_find_112 : decode cX4_find 112 = .ok (.getfield 59, 3) := by decide +kernel
theorem dX4_find_115 : decode cX4_find 115 = .ok (.bipush 20, 2) := by decide +kernel
theorem dX4_find_117 : decode cX4_find 117 = .ok (.iaload, 1) := by decide +kernel
theorem dX4_find_118 : decode cX4_find 118 = .ok (.iconst 1, 1) := by decide +kernel
theorem dX4_find_119 : decode cX4_find 119 = .ok (.iadd, 1) := by decide +kernel
theorem dX4_find_120 : decode cX4_find 120 = .ok (.iastore, 1) := by decide +kernel
theorem dX4_find_121 : decode cX4_find 121 = .ok (.aload_n 0, 1) := by decide +kernel
theorem dX4_find_122 : decode cX4_find 122 = .ok (.dup, 1) := by decide +kernel
theorem dX4_find_123 : decode cX4_find 123 = .ok (.getfield 75, 3) := by decide +kernel
theorem dX4_find_126 : decode cX4_find 126 = .ok (.iconst 1, 1) := by decide +kernel
theorem dX4_find_127 : decode cX4_find 127 = .ok (.iadd, 1) := by decide +kernel
theorem dX4_find_128 : decode cX4_find 128 = .ok (.putfield 75, 3) := by decide +kernel
theorem dX4_find_131 : decode cX4_find 131 = .ok (.return_, 1) := by decide +kernel
theorem dX4_find_132 : decode cX4_find 132 = .ok (.aload_n 0, 1) := by decide +kernel
theorem dX4_find_133 : decode cX4_find 133 = .ok (.getfield 50, 3) := by decide +kernel
theorem dX4_find_136 : decode cX4_find 136 = .ok (.bipush 20, 2) := by decide +kernel
theorem dX4_find_138 : decode cX4_find 138 = .ok (.iaload, 1) := by decide +kernel
theorem dX4_find_139 : decode cX4_find 139 = .ok (.ifCond .eq 14, 3) := by decide +kernel
theorem dX4_find_142 : decode cX4_find 142 = .ok (.aload_n 0, 1) := by decide +kernel
theorem dX4_find_143 : decode cX4_find 143 = .ok (.getfield 50, 3) := by decide +kernel
theorem dX4_find_146 : decode cX4_find 146 = .ok (.bipush 20, 2) := by decide +kernel
theorem dX4_find_148 : decode cX4_find 148 = .ok (.iaload, 1) := by decide +kernel
theorem dX4_find_149 : decode cX4_find 149 = .ok (.iconst 1, 1) := by decide +kernel
theorem dX4_find_150 : decode cX4_find 150 = .ok (.if_icmp .ne 7, 3) := by decide +kernel
theorem dX4_find_153 : decode cX4_find 153 = .ok (.iconst 1, 1) := by decide +kernel
theorem dX4_find_154 : decode cX4_find 154 = .ok (.goto 4, 3) := by decide +kernel
theorem dX4_find_157 : decode cX4_find 157 = .ok (.iconst 0, 1) := by decide +kernel
theorem dX4_find_158 : decode cX4_find 158 = .ok (.istore_n 3, 1) := by decide +kernel
theorem dX4_find_159 : decode cX4_find 159 = .ok (.aload_n 0, 1) := by decide +kernel
theorem dX4_find_160 : decode cX4_find 160 = .ok (.iload_n 3, 1) := by decide +kernel
theorem dX4_find_161 : decode cX4_find 161 = .ok (.ifCond .eq 7, 3) := by decide +kernel
theorem dX4_find_164 : decode cX4_find 164 = .ok (.iconst 2, 1) := by decide +kernel
theorem dX4_find_165 : decode cX4_find 165 = .ok (.goto 19, 3) := by decide +kernel
theorem dX4_find_168 : decode cX4_find 168 = .ok (.aload_n 0, 1) := by decide +kernel
theorem dX4_find_169 : decode cX4_find 169 = .ok (.getfield 50, 3) := by decide +kernel
theorem dX4_find_172 : decode cX4_find 172 = .ok (.bipush 20, 2) := by decide +kernel
theorem dX4_find_174 : decode cX4_find 174 = .ok (.iaload, 1) := by decide +kernel
theorem dX4_find_175 : decode cX4_find 175 = .ok (.iconst 2, 1) := by decide +kernel
theorem dX4_find_176 : decode cX4_find 176 = .ok (.if_icmp .ne 7, 3) := by decide +kernel
theorem dX4_find_179 : decode cX4_find 179 = .ok (.iconst 3, 1) := by decide +kernel
theorem dX4_find_180 : decode cX4_find 180 = .ok (.goto 4, 3) := by decide +kernel
theorem dX4_find_183 : decode cX4_find 183 = .ok (.iconst 4, 1) := by decide +kernel
theorem dX4_find_184 : decode cX4_find 184 = .ok (.iload_n 3, 1) := by decide +kernel
theorem dX4_find_185 : decode cX4_find 185 = .ok (.ifCond .eq 13, 3) := by decide +kernel
theorem dX4_find_188 : decode cX4_find 188 = .ok (.aload_n 0, 1) := by decide +kernel
theorem dX4_find_189 : decode cX4_find 189 = .ok (.getfield 56, 3) := by decide +kernel
theorem dX4_find_192 : decode cX4_find 192 = .ok (.bipush 20, 2) := by decide +kernel
theorem dX4_find_194 : decode cX4_find 194 = .ok (.iaload, 1) := by decide +kernel
theorem dX4_find_195 : decode cX4_find 195 = .ok (.goto 4, 3) := by decide +kernel
theorem dX4_find_198 : decode cX4_find 198 = .ok (.iload_n 2, 1) := by decide +kernel
theorem dX4_find_199 : decode cX4_find 199 = .ok (.aload_n 0, 1) := by decide +kernel
theorem dX4_find_200 : decode cX4_find 200 = .ok (.getfield 47, 3) := by decide +kernel
theorem dX4_find_203 : decode cX4_find 203 = .ok (.bipush 20, 2) := by decide +kernel
theorem dX4_find_205 : decode cX4_find 205 = .ok (.iaload, 1) := by decide +kernel
theorem dX4_find_206 : decode cX4_find 206 = .ok (.aload_n 0, 1) := by decide +kernel
theorem dX4_find_207 : decode cX4_find 207 = .ok (.getfield 56, 3) := by decide +kernel
theorem dX4_find_210 : decode cX4_find 210 = .ok (.bipush 20, 2) := by decide +kernel
theorem dX4_find_212 : decode cX4_find 212 = .ok (.iaload, 1) := by decide +kernel
theorem dX4_find_213 : decode cX4_find 213 = .ok (.invokevirtual 79, 3) := by decide +kernel
theorem dX4_find_216 : decode cX4_find 216 = .ok (.aload_n 0, 1) := by decide +kernel
theorem dX4_find_217 : decode cX4_find 217 = .ok (.getfield 50, 3) := by decide +kernel
theorem dX4_find_220 : decode cX4_find 220 = .ok (.aload_n 0, 1) := by decide +kernel
theorem dX4_find_221 : decode cX4_find 221 = .ok (.getfield 75, 3) := by decide +kernel
theorem dX4_find_224 : decode cX4_find 224 = .ok (.iconst 1, 1) := by decide +kernel
theorem dX4_find_225 : decode cX4_find 225 = .ok (.isub, 1) := by decide +kernel
theorem dX4_find_226 : decode cX4_find 226 = .ok (.aload_n 0, 1) := by decide +kernel
theorem dX4_find_227 : decode cX4_find 227 = .ok (.getfield 50, 3) := by decide +kernel
theorem dX4_find_230 : decode cX4_find 230 = .ok (.bipush 20, 2) := by decide +kernel
theorem dX4_find_232 : decode cX4_find 232 = .ok (.iaload, 1) := by decide +kernel
theorem dX4_find_233 : decode cX4_find 233 = .ok (.iastore, 1) := by decide +kernel
theorem dX4_find_234 : decode cX4_find 234 = .ok (.aload_n 0, 1) := by decide +kernel
theorem dX4_find_235 : decode cX4_find 235 = .ok (.getfield 53, 3) := by decide +kernel
theorem dX4_find_238 : decode cX4_find 238 = .ok (.aload_n 0, 1) := by decide +kernel
theorem dX4_find_239 : decode cX4_find 239 = .ok (.getfield 75, 3) := by decide +kernel
theorem dX4_find_242 : decode cX4_find 242 = .ok (.iconst 1, 1) := by decide +kernel
theorem dX4_find_243 : decode cX4_find 243 = .ok (.isub, 1) := by decide +kernel
theorem dX4_find_244 : decode cX4_find 244 = .ok (.aload_n 0, 1) := by decide +kernel
theorem dX4_find_245 : decode cX4_find 245 = .ok (.getfield 53, 3) := by decide +kernel
theorem dX4_find_248 : decode cX4_find 248 = .ok (.bipush 20, 2) := by decide +kernel
theorem dX4_find_250 : decode cX4_find 250 = .ok (.iaload, 1) := by decide +kernel
theorem dX4_find_251 : decode cX4_find 251 = .ok (.iastore, 1) := by decide +kernel
theorem dX4_find_252 : decode cX4_find 252 = .ok (.aload_n 0, 1) := by decide +kernel
theorem dX4_find_253 : decode cX4_find 253 = .ok (.getfield 59, 3) := by decide +kernel
theorem dX4_find_256 : decode cX4_find 256 = .ok (.aload_n 0, 1) := by decide +kernel
theorem dX4_find_257 : decode cX4_find 257 = .ok (.getfield 75, 3) := by decide +kernel
theorem dX4_find_260 : decode cX4_find 260 = .ok (.iconst 1, 1) := by decide +kernel
theorem dX4_find_261 : decode cX4_find 261 = .ok (.isub, 1) := by decide +kernel
theorem dX4_find_262 : decode cX4_find 262 = .ok (.aload_n 0, 1) := by decide +kernel
theorem dX4_find_263 : decode cX4_find 263 = .ok (.getfield 59, 3) := by decide +kernel
theorem dX4_find_266 : decode cX4_find 266 = .ok (.bipush 20, 2) := by decide +kernel
theorem dX4_find_268 : decode cX4_find 268 = .ok (.iaload, 1) := by decide +kernel
theorem dX4_find_269 : decode cX4_find 269 = .ok (.iastore, 1) := by decide +kernel
theorem dX4_find_270 : decode cX4_find 270 = .ok (.aload_n 0, 1) := by decide +kernel
theorem dX4_find_271 : decode cX4_find 271 = .ok (.getfield 62, 3) := by decide +kernel
theorem dX4_find_274 : decode cX4_find 274 = .ok (.aload_n 0, 1) := by decide +kernel
theorem dX4_find_275 : decode cX4_find 275 = .ok (.getfield 75, 3) := by decide +kernel
theorem dX4_find_278 : decode cX4_find 278 = .ok (.iconst 1, 1) := by decide +kernel
theorem dX4_find_279 : decode cX4_find 279 = .ok (.isub, 1) := by decide +kernel
theorem dX4_find_280 : decode cX4_find 280 = .ok (.iload_n 3, 1) := by decide +kernel
theorem dX4_find_281 : decode cX4_find 281 = .ok (.ifCond .eq 8, 3) := by decide +kernel
theorem dX4_find_284 : decode cX4_find 284 = .ok (.iload_n 2, 1) := by decide +kernel
theorem dX4_find_285 : decode cX4_find 285 = .ok (.i2l, 1) := by decide +kernel
theorem dX4_find_286 : decode cX4_find 286 = .ok (.goto 10, 3) := by decide +kernel
theorem dX4_find_289 : decode cX4_find 289 = .ok (.aload_n 0, 1) := by decide +kernel
theorem dX4_find_290 : decode cX4_find 290 = .ok (.getfield 62, 3) := by decide +kernel
theorem dX4_find_293 : decode cX4_find 293 = .ok (.bipush 20, 2) := by decide +kernel
theorem dX4_find_295 : decode cX4_find 295 = .ok (.laload, 1) := by decide +kernel
theorem dX4_find_296 : decode cX4_find 296 = .ok (.lastore, 1) := by decide +kernel
theorem dX4_find_297 : decode cX4_find 297 = .ok (.return_, 1) := by decide +kernel
theorem dX4_found_0 : decode cX4_found 0 = .ok (.aload_n 0, 1) := by decide +kernel
theorem dX4_found_1 : decode cX4_found 1 = .ok (.getfield 62, 3) := by decide +kernel
theorem dX4_found_4 : decode cX4_found 4 = .ok (.bipush 20, 2) := by decide +kernel
theorem dX4_found_6 : decode cX4_found 6 = .ok (.laload, 1) := by decide +kernel
theorem dX4_found_7 : decode cX4_found 7 = .ok (.l2i, 1) := by decide +kernel
theorem dX4_found_8 : decode cX4_found 8 = .ok (.istore_n 2, 1) := by decide +kernel
theorem dX4_found_9 : decode cX4_found 9 = .ok (.aload_n 0, 1) := by decide +kernel
theorem dX4_found_10 : decode cX4_found 10 = .ok (.getfield 50, 3) := by decide +kernel
theorem dX4_found_13 : decode cX4_found 13 = .ok (.bipush 20, 2) := by decide +kernel
theorem dX4_found_15 : decode cX4_found 15 = .ok (.iaload, 1) := by decide +kernel
theorem dX4_found_16 : decode cX4_found 16 = .ok (.ifCond .ne 20, 3) := by decide +kernel
theorem dX4_found_19 : decode cX4_found 19 = .ok (.aload_n 0, 1) := by decide +kernel
theorem dX4_found_20 : decode cX4_found 20 = .ok (.getfield 7, 3) := by decide +kernel
theorem dX4_found_23 : decode cX4_found 23 = .ok (.iload_n 1, 1) := by decide +kernel
theorem dX4_found_24 : decode cX4_found 24 = .ok (.iconst 2, 1) := by decide +kernel
theorem dX4_found_25 : decode cX4_found 25 = .ok (.iastore, 1) := by decide +kernel
theorem dX4_found_26 : decode cX4_found 26 = .ok (.aload_n 0, 1) := by decide +kernel
theorem dX4_found_27 : decode cX4_found 27 = .ok (.getfield 13, 3) := by decide +kernel
theorem dX4_found_30 : decode cX4_found 30 = .ok (.iload_n 1, 1) := by decide +kernel
theorem dX4_found_31 : decode cX4_found 31 = .ok (.iload_n 2, 1) := by decide +kernel
theorem dX4_found_32 : decode cX4_found 32 = .ok (.iastore, 1) := by decide +kernel
theorem dX4_found_33 : decode cX4_found 33 = .ok (.goto 21, 3) := by decide +kernel
theorem dX4_found_36 : decode cX4_found 36 = .ok (.aload_n 0, 1) := by decide +kernel
theorem dX4_found_37 : decode cX4_found 37 = .ok (.getfield 19, 3) := by decide +kernel
theorem dX4_found_40 : decode cX4_found 40 = .ok (.bipush 8, 2) := by decide +kernel
theorem dX4_found_42 : decode cX4_found 42 = .ok (.iload_n 1, 1) := by decide +kernel
theorem dX4_found_43 : decode cX4_found 43 = .ok (.imul, 1) := by decide +kernel
theorem dX4_found_44 : decode cX4_found 44 = .ok (.aload_n 0, 1) := by decide +kernel
theorem dX4_found_45 : decode cX4_found 45 = .ok (.getfield 53, 3) := by decide +kernel
theorem dX4_found_48 : decode cX4_found 48 = .ok (.bipush 20, 2) := by decide +kernel
theorem dX4_found_50 : decode cX4_found 50 = .ok (.iaload, 1) := by decide +kernel
theorem dX4_found_51 : decode cX4_found 51 = .ok (.iadd, 1) := by decide +kernel
theorem dX4_found_52 : decode cX4_found 52 = .ok (.iload_n 2, 1) := by decide +kernel
theorem dX4_found_53 : decode cX4_found 53 = .ok (.iastore, 1) := by decide +kernel
theorem dX4_found_54 : decode cX4_found 54 = .ok (.aload_n 0, 1) := by decide +kernel
theorem dX4_found_55 : decode cX4_found 55 = .ok (.getfield 26, 3) := by decide +kernel
theorem dX4_found_58 : decode cX4_found 58 = .ok (.iload_n 1, 1) := by decide +kernel
theorem dX4_found_59 : decode cX4_found 59 = .ok (.aload_n 0, 1) := by decide +kernel
theorem dX4_found_60 : decode cX4_found 60 = .ok (.getfield 59, 3) := by decide +kernel
theorem dX4_found_63 : decode cX4_found 63 = .ok (.bipush 20, 2) := by decide +kernel
theorem dX4_found_65 : decode cX4_found 65 = .ok (.iaload, 1) := by decide +kernel
theorem dX4_found_66 : decode cX4_found 66 = .ok (.iastore, 1) := by decide +kernel
theorem dX4_found_67 : decode cX4_found 67 = .ok (.return_, 1) := by decide +kernel
theorem dX4_fetch_0 : decode cX4_fetch 0 = .ok (.aload_n 0, 1) := by decide +kernel
theorem dX4_fetch_1 : decode cX4_fetch 1 = .ok (.iload_n 1, 1) := by decide +kernel
theorem dX4_fetch_2 : decode cX4_fetch 2 = .ok (.aload_n 0, 1) := by decide +kernel
theorem dX4_fetch_3 : decode cX4_fetch 3 = .ok (.getfield 47, 3) := by decide +kernel
theorem dX4_fetch_6 : decode cX4_fetch 6 = .ok (.bipush 20, 2) := by decide +kernel
theorem dX4_fetch_8 : decode cX4_fetch 8 = .ok (.iaload, 1) := by decide +kernel
theorem dX4_fetch_9 : decode cX4_fetch 9 = .ok (.invokevirtual 99, 3) := by decide +kernel
theorem dX4_fetch_12 : decode cX4_fetch 12 = .ok (.istore_n 2, 1) := by decide +kernel
theorem dX4_fetch_13 : decode cX4_fetch 13 = .ok (.aload_n 0, 1) := by decide +kernel
theorem dX4_fetch_14 : decode cX4_fetch 14 = .ok (.iconst 5, 1) := by decide +kernel
theorem dX4_fetch_15 : decode cX4_fetch 15 = .ok (.aload_n 0, 1) := by decide +kernel
theorem dX4_fetch_16 : decode cX4_fetch 16 = .ok (.getfield 56, 3) := by decide +kernel
theorem dX4_fetch_19 : decode cX4_fetch 19 = .ok (.bipush 20, 2) := by decide +kernel
theorem dX4_fetch_21 : decode cX4_fetch 21 = .ok (.iaload, 1) := by decide +kernel
theorem dX4_fetch_22 : decode cX4_fetch 22 = .ok (.iconst 0, 1) := by decide +kernel
theorem dX4_fetch_23 : decode cX4_fetch 23 = .ok (.iconst 0, 1) := by decide +kernel
theorem dX4_fetch_24 : decode cX4_fetch 24 = .ok (.invokevirtual 79, 3) := by decide +kernel
theorem dX4_fetch_27 : decode cX4_fetch 27 = .ok (.aload_n 0, 1) := by decide +kernel
theorem dX4_fetch_28 : decode cX4_fetch 28 = .ok (.getfield 62, 3) := by decide +kernel
theorem dX4_fetch_31 : decode cX4_fetch 31 = .ok (.aload_n 0, 1) := by decide +kernel
theorem dX4_fetch_32 : decode cX4_fetch 32 = .ok (.getfield 75, 3) := by decide +kernel
theorem dX4_fetch_35 : decode cX4_fetch 35 = .ok (.iconst 1, 1) := by decide +kernel
theorem dX4_fetch_36 : decode cX4_fetch 36 = .ok (.isub, 1) := by decide +kernel
theorem dX4_fetch_37 : decode cX4_fetch 37 = .ok (.iload_n 2, 1) := by decide +kernel
theorem dX4_fetch_38 : decode cX4_fetch 38 = .ok (.ifCond .ge 9, 3) := by decide +kernel
theorem dX4_fetch_41 : decode cX4_fetch 41 = .ok (.ldc2_w 133, 3) := by decide +kernel
theorem dX4_fetch_44 : decode cX4_fetch 44 = .ok (.goto 10, 3) := by decide +kernel
theorem dX4_fetch_47 : decode cX4_fetch 47 = .ok (.aload_n 0, 1) := by decide +kernel
theorem dX4_fetch_48 : decode cX4_fetch 48 = .ok (.getfield 35, 3) := by decide +kernel
theorem dX4_fetch_51 : decode cX4_fetch 51 = .ok (.iload_n 2, 1) := by decide +kernel
theorem dX4_fetch_52 : decode cX4_fetch 52 = .ok (.iaload, 1) := by decide +kernel
theorem dX4_fetch_53 : decode cX4_fetch 53 = .ok (.i2l, 1) := by decide +kernel
theorem dX4_fetch_54 : decode cX4_fetch 54 = .ok (.lastore, 1) := by decide +kernel
theorem dX4_fetch_55 : decode cX4_fetch 55 = .ok (.aload_n 0, 1) := by decide +kernel
theorem dX4_fetch_56 : decode cX4_fetch 56 = .ok (.getfield 59, 3) := by decide +kernel
theorem dX4_fetch_59 : decode cX4_fetch 59 = .ok (.aload_n 0, 1) := by decide +kernel
theorem dX4_fetch_60 : decode cX4_fetch 60 = .ok (.getfield 75, 3) := by decide +kernel
theorem dX4_fetch_63 : decode cX4_fetch 63 = .ok (.iconst 1, 1) := by decide +kernel
theorem dX4_fetch_64 : decode cX4_fetch 64 = .ok (.isub, 1) := by decide +kernel
theorem dX4_fetch_65 : decode cX4_fetch 65 = .ok (.aload_n 0, 1) := by decide +kernel
theorem dX4_fetch_66 : decode cX4_fetch 66 = .ok (.getfield 59, 3) := by decide +kernel
theorem dX4_fetch_69 : decode cX4_fetch 69 = .ok (.bipush 20, 2) := by decide +kernel
theorem dX4_fetch_71 : decode cX4_fetch 71 = .ok (.iaload, 1) := by decide +kernel
theorem dX4_fetch_72 : decode cX4_fetch 72 = .ok (.iastore, 1) := by decide +kernel
theorem dX4_fetch_73 : decode cX4_fetch 73 = .ok (.return_, 1) := by decide +kernel
theorem dX4_tell_0 : decode cX4_tell 0 = .ok (.aload_n 0, 1) := by decide +kernel
theorem dX4_tell_1 : decode cX4_tell 1 = .ok (.getfield 62, 3) := by decide +kernel
theorem dX4_tell_4 : decode cX4_tell 4 = .ok (.bipush 20, 2) := by decide +kernel
theorem dX4_tell_6 : decode cX4_tell 6 = .ok (.laload, 1) := by decide +kernel
theorem dX4_tell_7 : decode cX4_tell 7 = .ok (.l2i, 1) := by decide +kernel
theorem dX4_tell_8 : decode cX4_tell 8 = .ok (.istore_n 2, 1) := by decide +kernel
theorem dX4_tell_9 : decode cX4_tell 9 = .ok (.iload_n 2, 1) := by decide +kernel
theorem dX4_tell_10 : decode cX4_tell 10 = .ok (.iconst (-1), 1) := by decide +kernel
theorem dX4_tell_11 : decode cX4_tell 11 = .ok (.if_icmp .eq 24, 3) := by decide +kernel
theorem dX4_tell_14 : decode cX4_tell 14 = .ok (.iload_n 2, 1) := by decide +kernel
theorem dX4_tell_15 : decode cX4_tell 15 = .ok (.iload_n 1, 1) := by decide +kernel
theorem dX4_tell_16 : decode cX4_tell 16 = .ok (.aload_n 0, 1) := by decide +kernel
theorem dX4_tell_17 : decode cX4_tell 17 = .ok (.getfield 13, 3) := by decide +kernel
theorem dX4_tell_20 : decode cX4_tell 20 = .ok (.iload_n 1, 1) := by decide +kernel
theorem dX4_tell_21 : decode cX4_tell 21 = .ok (.iaload, 1) := by decide +kernel
theorem dX4_tell_22 : decode cX4_tell 22 = .ok (.invokestatic 130, 3) := by decide +kernel
theorem dX4_tell_25 : decode cX4_tell 25 = .ok (.ifCond .eq 10, 3) := by decide +kernel
theorem dX4_tell_28 : decode cX4_tell 28 = .ok (.aload_n 0, 1) := by decide +kernel
theorem dX4_tell_29 : decode cX4_tell 29 = .ok (.getfield 13, 3) := by decide +kernel
theorem dX4_tell_32 : decode cX4_tell 32 = .ok (.iload_n 1, 1) := by decide +kernel
theorem dX4_tell_33 : decode cX4_tell 33 = .ok (.iload_n 2, 1) := by decide +kernel
theorem dX4_tell_34 : decode cX4_tell 34 = .ok (.iastore, 1) := by decide +kernel
theorem dX4_tell_35 : decode cX4_tell 35 = .ok (.aload_n 0, 1) := by decide +kernel
theorem dX4_tell_36 : decode cX4_tell 36 = .ok (.bipush 8, 2) := by decide +kernel
theorem dX4_tell_38 : decode cX4_tell 38 = .ok (.aload_n 0, 1) := by decide +kernel
theorem dX4_tell_39 : decode cX4_tell 39 = .ok (.getfield 13, 3) := by decide +kernel
theorem dX4_tell_42 : decode cX4_tell 42 = .ok (.iload_n 1, 1) := by decide +kernel
theorem dX4_tell_43 : decode cX4_tell 43 = .ok (.iaload, 1) := by decide +kernel
theorem dX4_tell_44 : decode cX4_tell 44 = .ok (.iconst 0, 1) := by decide +kernel
theorem dX4_tell_45 : decode cX4_tell 45 = .ok (.iload_n 1, 1) := by decide +kernel
theorem dX4_tell_46 : decode cX4_tell 46 = .ok (.invokevirtual 79, 3) := by decide +kernel
theorem dX4_tell_49 : decode cX4_tell 49 = .ok (.return_, 1) := by decide +kernel
theorem dX4_notified_0 : decode cX4_notified 0 = .ok (.aload_n 0, 1) := by decide +kernel
theorem dX4_notified_1 : decode cX4_notified 1 = .ok (.getfield 56, 3) := by decide +kernel
theorem dX4_notified_4 : decode cX4_notified 4 = .ok (.bipush 20, 2) := by decide +kernel
theorem dX4_notified_6 : decode cX4_notified 6 = .ok (.iaload, 1) := by decide +kernel
theorem dX4_notified_7 : decode cX4_notified 7 = .ok (.istore_n 2, 1) := by decide +kernel
theorem dX4_notified_8 : decode cX4_notified 8 = .ok (.aload_n 0, 1) := by decide +kernel
theorem dX4_notified_9 : decode cX4_notified 9 = .ok (.getfield 16, 3) := by decide +kernel
theorem dX4_notified_12 : decode cX4_notified 12 = .ok (.iload_n 1, 1) := by decide +kernel
theorem dX4_notified_13 : decode cX4_notified 13 = .ok (.iaload, 1) := by decide +kernel
theorem dX4_notified_14 : decode cX4_notified 14 = .ok (.iconst (-1), 1) := by decide +kernel
theorem dX4_notified_15 : decode cX4_notified 15 = .ok (.if_icmp .eq 17, 3) := by decide +kernel
theorem dX4_notified_18 : decode cX4_notified 18 = .ok (.iload_n 2, 1) := by decide +kernel
theorem dX4_notified_19 : decode cX4_notified 19 = .ok (.aload_n 0, 1) := by decide +kernel
theorem dX4_notified_20 : decode cX4_notified 20 = .ok (.getfield 16, 3) := by decide +kernel
theorem dX4_notified_23 : decode cX4_notified 23 = .ok (.iload_n 1, 1) := by decide +kernel
theorem dX4_notified_24 : decode cX4_notified 24 = .ok (.iaload, 1) := by decide +kernel
theorem dX4_notified_25 : decode cX4_notified 25 = .ok (.iload_n 1, 1) := by decide +kernel
theorem dX4_notified_26 : decode cX4_notified 26 = .ok (.invokestatic 130, 3) := by decide +kernel
theorem dX4_notified_29 : decode cX4_notified 29 = .ok (.ifCond .eq 16, 3) := by decide +kernel
theorem dX4_notified_32 : decode cX4_notified 32 = .ok (.aload_n 0, 1) := by decide +kernel
theorem dX4_notified_33 : decode cX4_notified 33 = .ok (.getfield 16, 3) := by decide +kernel
theorem dX4_notified_36 : decode cX4_notified 36 = .ok (.iload_n 1, 1) := by decide +kernel
theorem dX4_notified_37 : decode cX4_notified 37 = .ok (.iload_n 2, 1) := by decide +kernel
theorem dX4_notified_38 : decode cX4_notified 38 = .ok (.iastore, 1) := by decide +kernel
theorem dX4_notified_39 : decode cX4_notified 39 = .ok (.aload_n 0, 1) := by decide +kernel
theorem dX4_notified_40 : decode cX4_notified 40 = .ok (.iload_n 1, 1) := by decide +kernel
theorem dX4_notified_41 : decode cX4_notified 41 = .ok (.iload_n 2, 1) := by decide +kernel
theorem dX4_notified_42 : decode cX4_notified 42 = .ok (.invokevirtual 135, 3) := by decide +kernel
theorem dX4_notified_45 : decode cX4_notified 45 = .ok (.return_, 1) := by decide +kernel
theorem dX4_deliver_0 : decode cX4_deliver 0 = .ok (.iload_n 1, 1) := by decide +kernel
theorem dX4_deliver_1 : decode cX4_deliver 1 = .ok (.ifCond .lt 11, 3) := by decide +kernel
theorem dX4_deliver_4 : decode cX4_deliver 4 = .ok (.iload_n 1, 1) := by decide +kernel
theorem dX4_deliver_5 : decode cX4_deliver 5 = .ok (.aload_n 0, 1) := by decide +kernel
theorem dX4_deliver_6 : decode cX4_deliver 6 = .ok (.getfield 75, 3) := by decide +kernel
theorem dX4_deliver_9 : decode cX4_deliver 9 = .ok (.if_icmp .lt 5, 3) := by decide +kernel
theorem dX4_deliver_12 : decode cX4_deliver 12 = .ok (.iconst (-1), 1) := by decide +kernel
theorem dX4_deliver_13 : decode cX4_deliver 13 = .ok (.ireturn, 1) := by decide +kernel
theorem dX4_deliver_14 : decode cX4_deliver 14 = .ok (.aload_n 0, 1) := by decide +kernel
theorem dX4_deliver_15 : decode cX4_deliver 15 = .ok (.getfield 41, 3) := by decide +kernel
theorem dX4_deliver_18 : decode cX4_deliver 18 = .ok (.iload_n 1, 1) := by decide +kernel
theorem dX4_deliver_19 : decode cX4_deliver 19 = .ok (.iaload, 1) := by decide +kernel
theorem dX4_deliver_20 : decode cX4_deliver 20 = .ok (.istore_n 2, 1) := by decide +kernel
theorem dX4_deliver_21 : decode cX4_deliver 21 = .ok (.aload_n 0, 1) := by decide +kernel
theorem dX4_deliver_22 : decode cX4_deliver 22 = .ok (.iload_n 1, 1) := by decide +kernel
theorem dX4_deliver_23 : decode cX4_deliver 23 = .ok (.invokevirtual 138, 3) := by decide +kernel
theorem dX4_deliver_26 : decode cX4_deliver 26 = .ok (.iload_n 2, 1) := by decide +kernel
theorem dX4_deliver_27 : decode cX4_deliver 27 = .ok (.ireturn, 1) := by decide +kernel
theorem dX4_pump_0 : decode cX4_pump 0 = .ok (.iload_n 1, 1) := by decide +kernel
theorem dX4_pump_1 : decode cX4_pump 1 = .ok (.iconst 1, 1) := by decide +kernel
theorem dX4_pump_2 : decode cX4_pump 2 = .ok (.if_icmp .lt 9, 3) := by decide +kernel
theorem dX4_pump_5 : decode cX4_pump 5 = .ok (.iload_n 1, 1) := by decide +kernel
theorem dX4_pump_6 : decode cX4_pump 6 = .ok (.bipush 8, 2) := by decide +kernel
theorem dX4_pump_8 : decode cX4_pump 8 = .ok (.if_icmp .le 5, 3) := by decide +kernel
theorem dX4_pump_11 : decode cX4_pump 11 = .ok (.iconst (-1), 1) := by decide +kernel
theorem dX4_pump_12 : decode cX4_pump 12 = .ok (.ireturn, 1) := by decide +kernel
theorem dX4_pump_13 : decode cX4_pump 13 = .ok (.iconst 0, 1) := by decide +kernel
theorem dX4_pump_14 : decode cX4_pump 14 = .ok (.istore_n 2, 1) := by decide +kernel
theorem dX4_pump_15 : decode cX4_pump 15 = .ok (.iload_n 2, 1) := by decide +kernel
theorem dX4_pump_16 : decode cX4_pump 16 = .ok (.iload_n 1, 1) := by decide +kernel
theorem dX4_pump_17 : decode cX4_pump 17 = .ok (.if_icmp .ge 21, 3) := by decide +kernel
theorem dX4_pump_20 : decode cX4_pump 20 = .ok (.aload_n 0, 1) := by decide +kernel
theorem dX4_pump_21 : decode cX4_pump 21 = .ok (.getfield 75, 3) := by decide +kernel
theorem dX4_pump_24 : decode cX4_pump 24 = .ok (.ifCond .le 14, 3) := by decide +kernel
theorem dX4_pump_27 : decode cX4_pump 27 = .ok (.aload_n 0, 1) := by decide +kernel
theorem dX4_pump_28 : decode cX4_pump 28 = .ok (.iconst 0, 1) := by decide +kernel
theorem dX4_pump_29 : decode cX4_pump 29 = .ok (.invokevirtual 138, 3) := by decide +kernel
theorem dX4_pump_32 : decode cX4_pump 32 = .ok (.iinc 2 1, 3) := by decide +kernel
theorem dX4_pump_35 : decode cX4_pump 35 = .ok (.goto (-20), 3) := by decide +kernel
theorem dX4_pump_38 : decode cX4_pump 38 = .ok (.iload_n 2, 1) := by decide +kernel
theorem dX4_pump_39 : decode cX4_pump 39 = .ok (.ireturn, 1) := by decide +kernel
theorem dX4_flying_0 : decode cX4_flying 0 = .ok (.aload_n 0, 1) := by decide +kernel
theorem dX4_flying_1 : decode cX4_flying 1 = .ok (.getfield 75, 3) := by decide +kernel
theorem dX4_flying_4 : decode cX4_flying 4 = .ok (.ireturn, 1) := by decide +kernel
theorem dX4_message_0 : decode cX4_message 0 = .ok (.iload_n 1, 1) := by decide +kernel
theorem dX4_message_1 : decode cX4_message 1 = .ok (.ifCond .lt 11, 3) := by decide +kernel
theorem dX4_message_4 : decode cX4_message 4 = .ok (.iload_n 1, 1) := by decide +kernel
theorem dX4_message_5 : decode cX4_message 5 = .ok (.aload_n 0, 1) := by decide +kernel
theorem dX4_message_6 : decode cX4_message 6 = .ok (.getfield 75, 3) := by decide +kernel
theorem dX4_message_9 : decode cX4_message 9 = .ok (.if_icmp .lt 7, 3) := by decide +kernel
theorem dX4_message_12 : decode cX4_message 12 = .ok (.iconst (-1), 1) := by decide +kernel
theorem dX4_message_13 : decode cX4_message 13 = .ok (.goto 20, 3) := by decide +kernel
theorem dX4_message_16 : decode cX4_message 16 = .ok (.aload_n 0, 1) := by decide +kernel
theorem dX4_message_17 : decode cX4_message 17 = .ok (.getfield 41, 3) := by decide +kernel
theorem dX4_message_20 : decode cX4_message 20 = .ok (.iload_n 1, 1) := by decide +kernel
theorem dX4_message_21 : decode cX4_message 21 = .ok (.iaload, 1) := by decide +kernel
theorem dX4_message_22 : decode cX4_message 22 = .ok (.sipush 256, 3) := by decide +kernel
theorem dX4_message_25 : decode cX4_message 25 = .ok (.imul, 1) := by decide +kernel
theorem dX4_message_26 : decode cX4_message 26 = .ok (.aload_n 0, 1) := by decide +kernel
theorem dX4_message_27 : decode cX4_message 27 = .ok (.getfield 44, 3) := by decide +kernel
theorem dX4_message_30 : decode cX4_message 30 = .ok (.iload_n 1, 1) := by decide +kernel
theorem dX4_message_31 : decode cX4_message 31 = .ok (.iaload, 1) := by decide +kernel
theorem dX4_message_32 : decode cX4_message 32 = .ok (.iadd, 1) := by decide +kernel
theorem dX4_message_33 : decode cX4_message 33 = .ok (.ireturn, 1) := by decide +kernel
theorem dX4_successor_0 : decode cX4_successor 0 = .ok (.aload_n 0, 1) := by decide +kernel
theorem dX4_successor_1 : decode cX4_successor 1 = .ok (.iload_n 1, 1) := by decide +kernel
theorem dX4_successor_2 : decode cX4_successor 2 = .ok (.invokevirtual 86, 3) := by decide +kernel
theorem dX4_successor_5 : decode cX4_successor 5 = .ok (.ifCond .eq 12, 3) := by decide +kernel
theorem dX4_successor_8 : decode cX4_successor 8 = .ok (.aload_n 0, 1) := by decide +kernel
theorem dX4_successor_9 : decode cX4_successor 9 = .ok (.getfield 13, 3) := by decide +kernel
theorem dX4_successor_12 : decode cX4_successor 12 = .ok (.iload_n 1, 1) := by decide +kernel
theorem dX4_successor_13 : decode cX4_successor 13 = .ok (.iaload, 1) := by decide +kernel
theorem dX4_successor_14 : decode cX4_successor 14 = .ok (.goto 4, 3) := by decide +kernel
theorem dX4_successor_17 : decode cX4_successor 17 = .ok (.iconst (-1), 1) := by decide +kernel
theorem dX4_successor_18 : decode cX4_successor 18 = .ok (.ireturn, 1) := by decide +kernel
theorem dX4_predecessor_0 : decode cX4_predecessor 0 = .ok (.aload_n 0, 1) := by decide +kernel
theorem dX4_predecessor_1 : decode cX4_predecessor 1 = .ok (.iload_n 1, 1) := by decide +kernel
theorem dX4_predecessor_2 : decode cX4_predecessor 2 = .ok (.invokevirtual 86, 3) := by decide +kernel
theorem dX4_predecessor_5 : decode cX4_predecessor 5 = .ok (.ifCond .eq 12, 3) := by decide +kernel
theorem dX4_predecessor_8 : decode cX4_predecessor 8 = .ok (.aload_n 0, 1) := by decide +kernel
theorem dX4_predecessor_9 : decode cX4_predecessor 9 = .ok (.getfield 16, 3) := by decide +kernel
theorem dX4_predecessor_12 : decode cX4_predecessor 12 = .ok (.iload_n 1, 1) := by decide +kernel
theorem dX4_predecessor_13 : decode cX4_predecessor 13 = .ok (.iaload, 1) := by decide +kernel
theorem dX4_predecessor_14 : decode cX4_predecessor 14 = .ok (.goto 4, 3) := by decide +kernel
theorem dX4_predecessor_17 : decode cX4_predecessor 17 = .ok (.iconst (-1), 1) := by decide +kernel
theorem dX4_predecessor_18 : decode cX4_predecessor 18 = .ok (.ireturn, 1) := by decide +kernel
theorem dX4_finger_0 : decode cX4_finger 0 = .ok (.aload_n 0, 1) := by decide +kernel
theorem dX4_finger_1 : decode cX4_finger 1 = .ok (.iload_n 1, 1) := by decide +kernel
theorem dX4_finger_2 : decode cX4_finger 2 = .ok (.invokevirtual 86, 3) := by decide +kernel
theorem dX4_finger_5 : decode cX4_finger 5 = .ok (.ifCond .eq 27, 3) := by decide +kernel
theorem dX4_finger_8 : decode cX4_finger 8 = .ok (.iload_n 2, 1) := by decide +kernel
theorem dX4_finger_9 : decode cX4_finger 9 = .ok (.ifCond .lt 23, 3) := by decide +kernel
theorem dX4_finger_12 : decode cX4_finger 12 = .ok (.iload_n 2, 1) := by decide +kernel
theorem dX4_finger_13 : decode cX4_finger 13 = .ok (.bipush 7, 2) := by decide +kernel
theorem dX4_finger_15 : decode cX4_finger 15 = .ok (.if_icmp .gt 17, 3) := by decide +kernel
theorem dX4_finger_18 : decode cX4_finger 18 = .ok (.aload_n 0, 1) := by decide +kernel
theorem dX4_finger_19 : decode cX4_finger 19 = .ok (.getfield 19, 3) := by decide +kernel
theorem dX4_finger_22 : decode cX4_finger 22 = .ok (.bipush 8, 2) := by decide +kernel
theorem dX4_finger_24 : decode cX4_finger 24 = .ok (.iload_n 1, 1) := by decide +kernel
theorem dX4_finger_25 : decode cX4_finger 25 = .ok (.imul, 1) := by decide +kernel
theorem dX4_finger_26 : decode cX4_finger 26 = .ok (.iload_n 2, 1) := by decide +kernel
theorem dX4_finger_27 : decode cX4_finger 27 = .ok (.iadd, 1) := by decide +kernel
theorem dX4_finger_28 : decode cX4_finger 28 = .ok (.iaload, 1) := by decide +kernel
theorem dX4_finger_29 : decode cX4_finger 29 = .ok (.goto 4, 3) := by decide +kernel
theorem dX4_finger_32 : decode cX4_finger 32 = .ok (.iconst (-1), 1) := by decide +kernel
theorem dX4_finger_33 : decode cX4_finger 33 = .ok (.ireturn, 1) := by decide +kernel
theorem dX4_entry_0 : decode cX4_entry 0 = .ok (.aload_n 0, 1) := by decide +kernel
theorem dX4_entry_1 : decode cX4_entry 1 = .ok (.iload_n 1, 1) := by decide +kernel
theorem dX4_entry_2 : decode cX4_entry 2 = .ok (.invokevirtual 86, 3) := by decide +kernel
theorem dX4_entry_5 : decode cX4_entry 5 = .ok (.ifCond .eq 12, 3) := by decide +kernel
theorem dX4_entry_8 : decode cX4_entry 8 = .ok (.aload_n 0, 1) := by decide +kernel
theorem dX4_entry_9 : decode cX4_entry 9 = .ok (.iload_n 1, 1) := by decide +kernel
theorem dX4_entry_10 : decode cX4_entry 10 = .ok (.iload_n 2, 1) := by decide +kernel
theorem dX4_entry_11 : decode cX4_entry 11 = .ok (.invokevirtual 99, 3) := by decide +kernel
theorem dX4_entry_14 : decode cX4_entry 14 = .ok (.goto 4, 3) := by decide +kernel
theorem dX4_entry_17 : decode cX4_entry 17 = .ok (.iconst (-1), 1) := by decide +kernel
theorem dX4_entry_18 : decode cX4_entry 18 = .ok (.istore_n 3, 1) := by decide +kernel
theorem dX4_entry_19 : decode cX4_entry 19 = .ok (.iload_n 3, 1) := by decide +kernel
theorem dX4_entry_20 : decode cX4_entry 20 = .ok (.ifCond .ge 9, 3) := by decide +kernel
theorem dX4_entry_23 : decode cX4_entry 23 = .ok (.ldc2_w 133, 3) := by decide +kernel
theorem dX4_entry_26 : decode cX4_entry 26 = .ok (.goto 10, 3) := by decide +kernel
theorem dX4_entry_29 : decode cX4_entry 29 = .ok (.aload_n 0, 1) := by decide +kernel
theorem dX4_entry_30 : decode cX4_entry 30 = .ok (.getfield 35, 3) := by decide +kernel
theorem dX4_entry_33 : decode cX4_entry 33 = .ok (.iload_n 3, 1) := by decide +kernel
theorem dX4_entry_34 : decode cX4_entry 34 = .ok (.iaload, 1) := by decide +kernel
theorem dX4_entry_35 : decode cX4_entry 35 = .ok (.i2l, 1) := by decide +kernel
theorem dX4_entry_36 : decode cX4_entry 36 = .ok (.lreturn, 1) := by decide +kernel
theorem dX4_entries_0 : decode cX4_entries 0 = .ok (.aload_n 0, 1) := by decide +kernel
theorem dX4_entries_1 : decode cX4_entries 1 = .ok (.iload_n 1, 1) := by decide +kernel
theorem dX4_entries_2 : decode cX4_entries 2 = .ok (.invokevirtual 86, 3) := by decide +kernel
theorem dX4_entries_5 : decode cX4_entries 5 = .ok (.ifCond .ne 5, 3) := by decide +kernel
theorem dX4_entries_8 : decode cX4_entries 8 = .ok (.iconst (-1), 1) := by decide +kernel
theorem dX4_entries_9 : decode cX4_entries 9 = .ok (.ireturn, 1) := by decide +kernel
theorem dX4_entries_10 : decode cX4_entries 10 = .ok (.iconst 0, 1) := by decide +kernel
theorem dX4_entries_11 : decode cX4_entries 11 = .ok (.istore_n 2, 1) := by decide +kernel
theorem dX4_entries_12 : decode cX4_entries 12 = .ok (.iconst 0, 1) := by decide +kernel
theorem dX4_entries_13 : decode cX4_entries 13 = .ok (.istore_n 3, 1) := by decide +kernel
theorem dX4_entries_14 : decode cX4_entries 14 = .ok (.iload_n 3, 1) := by decide +kernel
theorem dX4_entries_15 : decode cX4_entries 15 = .ok (.aload_n 0, 1) := by decide +kernel
theorem dX4_entries_16 : decode cX4_entries 16 = .ok (.getfield 96, 3) := by decide +kernel
theorem dX4_entries_19 : decode cX4_entries 19 = .ok (.if_icmp .ge 27, 3) := by decide +kernel
theorem dX4_entries_22 : decode cX4_entries 22 = .ok (.aload_n 0, 1) := by decide +kernel
theorem dX4_entries_23 : decode cX4_entries 23 = .ok (.getfield 29, 3) := by decide +kernel
theorem dX4_entries_26 : decode cX4_entries 26 = .ok (.iload_n 3, 1) := by decide +kernel
theorem dX4_entries_27 : decode cX4_entries 27 = .ok (.iaload, 1) := by decide +kernel
theorem dX4_entries_28 : decode cX4_entries 28 = .ok (.iload_n 1, 1) := by decide +kernel
theorem dX4_entries_29 : decode cX4_entries 29 = .ok (.if_icmp .ne 9, 3) := by decide +kernel
theorem dX4_entries_32 : decode cX4_entries 32 = .ok (.iload_n 2, 1) := by decide +kernel
theorem dX4_entries_33 : decode cX4_entries 33 = .ok (.iconst 1, 1) := by decide +kernel
theorem dX4_entries_34 : decode cX4_entries 34 = .ok (.iadd, 1) := by decide +kernel
theorem dX4_entries_35 : decode cX4_entries 35 = .ok (.goto 4, 3) := by decide +kernel
theorem dX4_entries_38 : decode cX4_entries 38 = .ok (.iload_n 2, 1) := by decide +kernel
theorem dX4_entries_39 : decode cX4_entries 39 = .ok (.istore_n 2, 1) := by decide +kernel
theorem dX4_entries_40 : decode cX4_entries 40 = .ok (.iinc 3 1, 3) := by decide +kernel
theorem dX4_entries_43 : decode cX4_entries 43 = .ok (.goto (-29), 3) := by decide +kernel
theorem dX4_entries_46 : decode cX4_entries 46 = .ok (.iload_n 2, 1) := by decide +kernel
theorem dX4_entries_47 : decode cX4_entries 47 = .ok (.ireturn, 1) := by decide +kernel
theorem dX4_answer_0 : decode cX4_answer 0 = .ok (.iload_n 1, 1) := by decide +kernel
theorem dX4_answer_1 : decode cX4_answer 1 = .ok (.invokestatic 67, 3) := by decide +kernel
theorem dX4_answer_4 : decode cX4_answer 4 = .ok (.ifCond .eq 12, 3) := by decide +kernel
theorem dX4_answer_7 : decode cX4_answer 7 = .ok (.aload_n 0, 1) := by decide +kernel
theorem dX4_answer_8 : decode cX4_answer 8 = .ok (.getfield 22, 3) := by decide +kernel
theorem dX4_answer_11 : decode cX4_answer 11 = .ok (.iload_n 1, 1) := by decide +kernel
theorem dX4_answer_12 : decode cX4_answer 12 = .ok (.laload, 1) := by decide +kernel
theorem dX4_answer_13 : decode cX4_answer 13 = .ok (.goto 6, 3) := by decide +kernel
theorem dX4_answer_16 : decode cX4_answer 16 = .ok (.ldc2_w 65, 3) := by decide +kernel
theorem dX4_answer_19 : decode cX4_answer 19 = .ok (.lreturn, 1) := by decide +kernel
theorem dX4_hops_0 : decode cX4_hops 0 = .ok (.iload_n 1, 1) := by decide +kernel
theorem dX4_hops_1 : decode cX4_hops 1 = .ok (.invokestatic 67, 3) := by decide +kernel
theorem dX4_hops_4 : decode cX4_hops 4 = .ok (.ifCond .eq 21, 3) := by decide +kernel
theorem dX4_hops_7 : decode cX4_hops 7 = .ok (.aload_n 0, 1) := by decide +kernel
theorem dX4_hops_8 : decode cX4_hops 8 = .ok (.getfield 7, 3) := by decide +kernel
theorem dX4_hops_11 : decode cX4_hops 11 = .ok (.iload_n 1, 1) := by decide +kernel
theorem dX4_hops_12 : decode cX4_hops 12 = .ok (.iaload, 1) := by decide +kernel
theorem dX4_hops_13 : decode cX4_hops 13 = .ok (.ifCond .le 12, 3) := by decide +kernel
theorem dX4_hops_16 : decode cX4_hops 16 = .ok (.aload_n 0, 1) := by decide +kernel
theorem dX4_hops_17 : decode cX4_hops 17 = .ok (.getfield 26, 3) := by decide +kernel
theorem dX4_hops_20 : decode cX4_hops 20 = .ok (.iload_n 1, 1) := by decide +kernel
theorem dX4_hops_21 : decode cX4_hops 21 = .ok (.iaload, 1) := by decide +kernel
theorem dX4_hops_22 : decode cX4_hops 22 = .ok (.goto 4, 3) := by decide +kernel
theorem dX4_hops_25 : decode cX4_hops 25 = .ok (.iconst (-1), 1) := by decide +kernel
theorem dX4_hops_26 : decode cX4_hops 26 = .ok (.ireturn, 1) := by decide +kernel
theorem dX4_owner_0 : decode cX4_owner 0 = .ok (.iload_n 1, 1) := by decide +kernel
theorem dX4_owner_1 : decode cX4_owner 1 = .ok (.invokestatic 67, 3) := by decide +kernel
theorem dX4_owner_4 : decode cX4_owner 4 = .ok (.ifCond .eq 12, 3) := by decide +kernel
theorem dX4_owner_7 : decode cX4_owner 7 = .ok (.aload_n 0, 1) := by decide +kernel
theorem dX4_owner_8 : decode cX4_owner 8 = .ok (.iload_n 1, 1) := by decide +kernel
theorem dX4_owner_9 : decode cX4_owner 9 = .ok (.iconst 1, 1) := by decide +kernel
theorem dX4_owner_10 : decode cX4_owner 10 = .ok (.invokevirtual 141, 3) := by decide +kernel
theorem dX4_owner_13 : decode cX4_owner 13 = .ok (.goto 4, 3) := by decide +kernel
theorem dX4_owner_16 : decode cX4_owner 16 = .ok (.iconst (-1), 1) := by decide +kernel
theorem dX4_owner_17 : decode cX4_owner 17 = .ok (.ireturn, 1) := by decide +kernel
theorem dX4_wrong_0 : decode cX4_wrong 0 = .ok (.iconst 0, 1) := by decide +kernel
theorem dX4_wrong_1 : decode cX4_wrong 1 = .ok (.istore_n 1, 1) := by decide +kernel
theorem dX4_wrong_2 : decode cX4_wrong 2 = .ok (.iconst 0, 1) := by decide +kernel
theorem dX4_wrong_3 : decode cX4_wrong 3 = .ok (.istore_n 2, 1) := by decide +kernel
theorem dX4_wrong_4 : decode cX4_wrong 4 = .ok (.iload_n 2, 1) := by decide +kernel
theorem dX4_wrong_5 : decode cX4_wrong 5 = .ok (.sipush 256, 3) := by decide +kernel
theorem dX4_wrong_8 : decode cX4_wrong 8 = .ok (.if_icmp .ge 117, 3) := by decide +kernel
theorem dX4_wrong_11 : decode cX4_wrong 11 = .ok (.aload_n 0, 1) := by decide +kernel
theorem dX4_wrong_12 : decode cX4_wrong 12 = .ok (.getfield 7, 3) := by decide +kernel
theorem dX4_wrong_15 : decode cX4_wrong 15 = .ok (.iload_n 2, 1) := by decide +kernel
theorem dX4_wrong_16 : decode cX4_wrong 16 = .ok (.iaload, 1) := by decide +kernel
theorem dX4_wrong_17 : decode cX4_wrong 17 = .ok (.iconst 2, 1) := by decide +kernel
theorem dX4_wrong_18 : decode cX4_wrong 18 = .ok (.if_icmp .ne 101, 3) := by decide +kernel
theorem dX4_wrong_21 : decode cX4_wrong 21 = .ok (.aload_n 0, 1) := by decide +kernel
theorem dX4_wrong_22 : decode cX4_wrong 22 = .ok (.getfield 13, 3) := by decide +kernel
theorem dX4_wrong_25 : decode cX4_wrong 25 = .ok (.iload_n 2, 1) := by decide +kernel
theorem dX4_wrong_26 : decode cX4_wrong 26 = .ok (.iaload, 1) := by decide +kernel
theorem dX4_wrong_27 : decode cX4_wrong 27 = .ok (.aload_n 0, 1) := by decide +kernel
theorem dX4_wrong_28 : decode cX4_wrong 28 = .ok (.iload_n 2, 1) := by decide +kernel
theorem dX4_wrong_29 : decode cX4_wrong 29 = .ok (.iconst 1, 1) := by decide +kernel
theorem dX4_wrong_30 : decode cX4_wrong 30 = .ok (.iadd, 1) := by decide +kernel
theorem dX4_wrong_31 : decode cX4_wrong 31 = .ok (.iconst 1, 1) := by decide +kernel
theorem dX4_wrong_32 : decode cX4_wrong 32 = .ok (.invokevirtual 141, 3) := by decide +kernel
theorem dX4_wrong_35 : decode cX4_wrong 35 = .ok (.if_icmp .eq 9, 3) := by decide +kernel
theorem dX4_wrong_38 : decode cX4_wrong 38 = .ok (.iload_n 1, 1) := by decide +kernel
theorem dX4_wrong_39 : decode cX4_wrong 39 = .ok (.iconst 1, 1) := by decide +kernel
theorem dX4_wrong_40 : decode cX4_wrong 40 = .ok (.iadd, 1) := by decide +kernel
theorem dX4_wrong_41 : decode cX4_wrong 41 = .ok (.goto 4, 3) := by decide +kernel
theorem dX4_wrong_44 : decode cX4_wrong 44 = .ok (.iload_n 1, 1) := by decide +kernel
theorem dX4_wrong_45 : decode cX4_wrong 45 = .ok (.istore_n 1, 1) := by decide +kernel
theorem dX4_wrong_46 : decode cX4_wrong 46 = .ok (.aload_n 0, 1) := by decide +kernel
theorem dX4_wrong_47 : decode cX4_wrong 47 = .ok (.getfield 16, 3) := by decide +kernel
theorem dX4_wrong_50 : decode cX4_wrong 50 = .ok (.iload_n 2, 1) := by decide +kernel
theorem dX4_wrong_51 : decode cX4_wrong 51 = .ok (.iaload, 1) := by decide +kernel
theorem dX4_wrong_52 : decode cX4_wrong 52 = .ok (.aload_n 0, 1) := by decide +kernel
theorem dX4_wrong_53 : decode cX4_wrong 53 = .ok (.iload_n 2, 1) := by decide +kernel
theorem dX4_wrong_54 : decode cX4_wrong 54 = .ok (.sipush 255, 3) := by decide +kernel
theorem dX4_wrong_57 : decode cX4_wrong 57 = .ok (.iadd, 1) := by decide +kernel
theorem dX4_wrong_58 : decode cX4_wrong 58 = .ok (.iconst (-1), 1) := by decide +kernel
theorem dX4_wrong_59 : decode cX4_wrong 59 = .ok (.invokevirtual 141, 3) := by decide +kernel
theorem dX4_wrong_62 : decode cX4_wrong 62 = .ok (.if_icmp .eq 9, 3) := by decide +kernel
theorem dX4_wrong_65 : decode cX4_wrong 65 = .ok (.iload_n 1, 1) := by decide +kernel
theorem dX4_wrong_66 : decode cX4_wrong 66 = .ok (.iconst 1, 1) := by decide +kernel
theorem dX4_wrong_67 : decode cX4_wrong 67 = .ok (.iadd, 1) := by decide +kernel
theorem dX4_wrong_68 : decode cX4_wrong 68 = .ok (.goto 4, 3) := by decide +kernel
theorem dX4_wrong_71 : decode cX4_wrong 71 = .ok (.iload_n 1, 1) := by decide +kernel
theorem dX4_wrong_72 : decode cX4_wrong 72 = .ok (.istore_n 1, 1) := by decide +kernel
theorem dX4_wrong_73 : decode cX4_wrong 73 = .ok (.iconst 0, 1) := by decide +kernel
theorem dX4_wrong_74 : decode cX4_wrong 74 = .ok (.istore_n 3, 1) := by decide +kernel
theorem dX4_wrong_75 : decode cX4_wrong 75 = .ok (.iload_n 3, 1) := by decide +kernel
theorem dX4_wrong_76 : decode cX4_wrong 76 = .ok (.bipush 8, 2) := by decide +kernel
theorem dX4_wrong_78 : decode cX4_wrong 78 = .ok (.if_icmp .ge 41, 3) := by decide +kernel
theorem dX4_wrong_81 : decode cX4_wrong 81 = .ok (.aload_n 0, 1) := by decide +kernel
theorem dX4_wrong_82 : decode cX4_wrong 82 = .ok (.getfield 19, 3) := by decide +kernel
theorem dX4_wrong_85 : decode cX4_wrong 85 = .ok (.bipush 8, 2) := by decide +kernel
theorem dX4_wrong_87 : decode cX4_wrong 87 = .ok (.iload_n 2, 1) := by decide +kernel
theorem dX4_wrong_88 : decode cX4_wrong 88 = .ok (.imul, 1) := by decide +kernel
theorem dX4_wrong_89 : decode cX4_wrong 89 = .ok (.iload_n 3, 1) := by decide +kernel
theorem dX4_wrong_90 : decode cX4_wrong 90 = .ok (.iadd, 1) := by decide +kernel
theorem dX4_wrong_91 : decode cX4_wrong 91 = .ok (.iaload, 1) := by decide +kernel
theorem dX4_wrong_92 : decode cX4_wrong 92 = .ok (.aload_n 0, 1) := by decide +kernel
theorem dX4_wrong_93 : decode cX4_wrong 93 = .ok (.iload_n 2, 1) := by decide +kernel
theorem dX4_wrong_94 : decode cX4_wrong 94 = .ok (.iconst 1, 1) := by decide +kernel
theorem dX4_wrong_95 : decode cX4_wrong 95 = .ok (.iload_n 3, 1) := by decide +kernel
theorem dX4_wrong_96 : decode cX4_wrong 96 = .ok (.ishl, 1) := by decide +kernel
theorem dX4_wrong_97 : decode cX4_wrong 97 = .ok (.iadd, 1) := by decide +kernel
theorem dX4_wrong_98 : decode cX4_wrong 98 = .ok (.iconst 1, 1) := by decide +kernel
theorem dX4_wrong_99 : decode cX4_wrong 99 = .ok (.invokevirtual 141, 3) := by decide +kernel
theorem dX4_wrong_102 : decode cX4_wrong 102 = .ok (.if_icmp .eq 9, 3) := by decide +kernel
theorem dX4_wrong_105 : decode cX4_wrong 105 = .ok (.iload_n 1, 1) := by decide +kernel
theorem dX4_wrong_106 : decode cX4_wrong 106 = .ok (.iconst 1, 1) := by decide +kernel
theorem dX4_wrong_107 : decode cX4_wrong 107 = .ok (.iadd, 1) := by decide +kernel
theorem dX4_wrong_108 : decode cX4_wrong 108 = .ok (.goto 4, 3) := by decide +kernel
theorem dX4_wrong_111 : decode cX4_wrong 111 = .ok (.iload_n 1, 1) := by decide +kernel
theorem dX4_wrong_112 : decode cX4_wrong 112 = .ok (.istore_n 1, 1) := by decide +kernel
theorem dX4_wrong_113 : decode cX4_wrong 113 = .ok (.iinc 3 1, 3) := by decide +kernel
theorem dX4_wrong_116 : decode cX4_wrong 116 = .ok (.goto (-41), 3) := by decide +kernel
theorem dX4_wrong_119 : decode cX4_wrong 119 = .ok (.iinc 2 1, 3) := by decide +kernel
theorem dX4_wrong_122 : decode cX4_wrong 122 = .ok (.goto (-118), 3) := by decide +kernel
theorem dX4_wrong_125 : decode cX4_wrong 125 = .ok (.iload_n 1, 1) := by decide +kernel
theorem dX4_wrong_126 : decode cX4_wrong 126 = .ok (.ireturn, 1) := by decide +kernel
theorem dX4_misplaced_0 : decode cX4_misplaced 0 = .ok (.iconst 0, 1) := by decide +kernel
theorem dX4_misplaced_1 : decode cX4_misplaced 1 = .ok (.istore_n 1, 1) := by decide +kernel
theorem dX4_misplaced_2 : decode cX4_misplaced 2 = .ok (.iconst 0, 1) := by decide +kernel
theorem dX4_misplaced_3 : decode cX4_misplaced 3 = .ok (.istore_n 2, 1) := by decide +kernel
theorem dX4_misplaced_4 : decode cX4_misplaced 4 = .ok (.iload_n 2, 1) := by decide +kernel
theorem dX4_misplaced_5 : decode cX4_misplaced 5 = .ok (.aload_n 0, 1) := by decide +kernel
theorem dX4_misplaced_6 : decode cX4_misplaced 6 = .ok (.getfield 96, 3) := by decide +kernel
theorem dX4_misplaced_9 : decode cX4_misplaced 9 = .ok (.if_icmp .ge 37, 3) := by decide +kernel
theorem dX4_misplaced_12 : decode cX4_misplaced 12 = .ok (.aload_n 0, 1) := by decide +kernel
theorem dX4_misplaced_13 : decode cX4_misplaced 13 = .ok (.aload_n 0, 1) := by decide +kernel
theorem dX4_misplaced_14 : decode cX4_misplaced 14 = .ok (.getfield 32, 3) := by decide +kernel
theorem dX4_misplaced_17 : decode cX4_misplaced 17 = .ok (.iload_n 2, 1) := by decide +kernel
theorem dX4_misplaced_18 : decode cX4_misplaced 18 = .ok (.iaload, 1) := by decide +kernel
theorem dX4_misplaced_19 : decode cX4_misplaced 19 = .ok (.iconst 1, 1) := by decide +kernel
theorem dX4_misplaced_20 : decode cX4_misplaced 20 = .ok (.invokevirtual 141, 3) := by decide +kernel
theorem dX4_misplaced_23 : decode cX4_misplaced 23 = .ok (.aload_n 0, 1) := by decide +kernel
theorem dX4_misplaced_24 : decode cX4_misplaced 24 = .ok (.getfield 29, 3) := by decide +kernel
theorem dX4_misplaced_27 : decode cX4_misplaced 27 = .ok (.iload_n 2, 1) := by decide +kernel
theorem dX4_misplaced_28 : decode cX4_misplaced 28 = .ok (.iaload, 1) := by decide +kernel
theorem dX4_misplaced_29 : decode cX4_misplaced 29 = .ok (.if_icmp .eq 9, 3) := by decide +kernel
theorem dX4_misplaced_32 : decode cX4_misplaced 32 = .ok (.iload_n 1, 1) := by decide +kernel
theorem dX4_misplaced_33 : decode cX4_misplaced 33 = .ok (.iconst 1, 1) := by decide +kernel
theorem dX4_misplaced_34 : decode cX4_misplaced 34 = .ok (.iadd, 1) := by decide +kernel
theorem dX4_misplaced_35 : decode cX4_misplaced 35 = .ok (.goto 4, 3) := by decide +kernel
theorem dX4_misplaced_38 : decode cX4_misplaced 38 = .ok (.iload_n 1, 1) := by decide +kernel
theorem dX4_misplaced_39 : decode cX4_misplaced 39 = .ok (.istore_n 1, 1) := by decide +kernel
theorem dX4_misplaced_40 : decode cX4_misplaced 40 = .ok (.iinc 2 1, 3) := by decide +kernel
theorem dX4_misplaced_43 : decode cX4_misplaced 43 = .ok (.goto (-39), 3) := by decide +kernel
theorem dX4_misplaced_46 : decode cX4_misplaced 46 = .ok (.iload_n 1, 1) := by decide +kernel
theorem dX4_misplaced_47 : decode cX4_misplaced 47 = .ok (.ireturn, 1) := by decide +kernel
end
section
/-! One memory by NAMES: a cell has a kind and a number (k, i); ad says where it lies, G what it holds. The kit's pool rows below, nothing of lists above. -/
section NHeap
variable {p : Program} {l : Launch} {e : Env} {R : Room} {s : State} {m : MethodId} {args : Array Value} {below : List Frame} {meth : Method} {c : Code} {H : Heap} {locs : List Loc} {cells slots : Nat} {Q : State → Prop}
variable {cc : ByteArray} {pc : Nat} {ls : Array Slot} {rest : List Value} {D : va_G} {cl : List vw_C} {A : Nat → Prop} {tys : List (ClassId × FieldType)} {H0 : Heap} {ad : Nat → Nat → Nat} {G G' : Nat → Nat → Option va_E}
/-- the heap holds G at the addresses ad; names that are alive lie apart -/
def nh_M (D : va_G) (cl : List vw_C) (A : Nat → Prop) (ad : Nat → Nat → Nat) (G : Nat → Nat → Option va_E) (H : Heap) : Prop :=
  ∃ (L : List Nat) (f : Nat → va_E), va_P D cl (va_pl L f) H ∧ va_D A (va_pl L f) ∧
    (∀ (k i : Nat) (x : va_E), G k i = some x → ad k i ∈ L ∧ f (ad k i) = x) ∧
    (∀ (k i k' i' : Nat) (x x' : va_E), G k i = some x → G k' i' = some x' → ad k i = ad k' i' → k = k' ∧ i = i')
theorem nh_at (h : nh_M D cl A ad G H) {k i : Nat} {x : va_E} (hg : G k i = some x) : ∃ (ws : va_W) (q0 : Nat), va_P D cl ws H ∧ ws[q0]? = some (ad k i, x) := by
  obtain ⟨L, f, hP, hD, h1, h2⟩ := h
  obtain ⟨m1, m2⟩ := h1 k i x hg
  obtain ⟨q0, hq⟩ := va_pl_get (X := []) (f := f) m1
  rw [m2] at hq
  exact ⟨va_pl L f, q0, hP, hq⟩
/-- one content changes -/
theorem nh_set (h : nh_M D cl A ad G H) {k i : Nat} {x x' : va_E} (hg : G k i = some x) (hG : ∀ a b : Nat, G' a b = if a = k ∧ b = i then some x' else G a b) :
    ∃ (ws : va_W) (q0 : Nat), va_P D cl ws H ∧ va_D A ws ∧ ws[q0]? = some (ad k i, x) ∧ (∀ (k2 i2 : Nat) (y : va_E), G k2 i2 = some y → ∃ qk : Nat, ws[qk]? = some (ad k2 i2, y)) ∧ ∀ H1 : Heap, va_P D cl (ws.set q0 (ad k i, x')) H1 → va_D A (ws.set q0 (ad k i, x')) → nh_M D cl A ad G' H1 := by
  obtain ⟨L, f, hP, hD, h1, h2⟩ := h
  obtain ⟨m1, m2⟩ := h1 k i x hg
  obtain ⟨q0, hq⟩ := va_pl_get (X := []) (f := f) m1
  have e1 : (va_pl L f).set q0 (ad k i, x') = va_pl L (va_up f (ad k i) x') := va_pl_set (X := []) hD m1 hq
  have hq' : (va_pl L f)[q0]? = some (ad k i, x) := by rw [← m2]; exact hq
  refine ⟨va_pl L f, q0, hP, hD, hq', fun k2 i2 y hy => ?_, fun H1 hP1 hD1 => ?_⟩
  · obtain ⟨n1, n2⟩ := h1 k2 i2 y hy
    obtain ⟨qk, hk⟩ := va_pl_get (X := []) (f := f) n1
    rw [n2] at hk
    exact ⟨qk, hk⟩
  rw [e1] at hP1 hD1
  have back : ∀ (a b : Nat) (y : va_E), G' a b = some y → ∃ z, G a b = some z := by
    intro a b y hy
    rw [hG] at hy
    by_cases hab : a = k ∧ b = i
    · obtain ⟨rfl, rfl⟩ := hab
      exact ⟨x, hg⟩
    · rw [if_neg hab] at hy
      exact ⟨y, hy⟩
  refine ⟨L, _, hP1, hD1, fun a b y hy => ?_, fun a b a' b' y y' hy hy' he => ?_⟩
  · rw [hG] at hy
    by_cases hab : a = k ∧ b = i
    · rw [if_pos hab] at hy
      obtain ⟨rfl, rfl⟩ := hab
      cases hy
      exact ⟨m1, va_up_self _ _ _⟩
    · rw [if_neg hab] at hy
      obtain ⟨n1, n2⟩ := h1 a b y hy
      exact ⟨n1, by rw [va_up_ne _ _ (fun q => hab (h2 a b k i y x hy hg q)), n2]⟩
  · obtain ⟨z, hz⟩ := back a b y hy
    obtain ⟨z', hz'⟩ := back a' b' y' hy'
    exact h2 a b a' b' z z' hz hz' he
/-- a new cell gets a name that was free -/
def nh_ad (ad : Nat → Nat → Nat) (k i q : Nat) : Nat → Nat → Nat := fun a b => if a = k ∧ b = i then q else ad a b
theorem nh_ad_new (ad : Nat → Nat → Nat) (k i q : Nat) : nh_ad ad k i q k i = q := by simp [nh_ad]
theorem nh_ad_old (ad : Nat → Nat → Nat) {k i q a b : Nat} (h : ¬ (a = k ∧ b = i)) : nh_ad ad k i q a b = ad a b := by simp [nh_ad, h]
theorem nh_push (h : nh_M D cl A ad G H) {k i : Nat} {x : va_E} (hg : G k i = none) (hG : ∀ a b : Nat, G' a b = if a = k ∧ b = i then some x else G a b) :
    ∃ ws : va_W, va_P D cl ws H ∧ va_D A ws ∧ ∀ (q : Nat) (H1 : Heap), va_P D cl (ws ++ [(q, x)]) H1 → va_D A (ws ++ [(q, x)]) → nh_M D cl A (nh_ad ad k i q) G' H1 := by
  obtain ⟨L, f, hP, hD, h1, h2⟩ := h
  refine ⟨va_pl L f, hP, hD, fun q H1 hP1 hD1 => ?_⟩
  have hq : q ∉ L := va_pl_fresh2 (X := []) hD1
  rw [va_pl_push hq] at hP1 hD1
  refine ⟨L ++ [q], _, hP1, hD1, fun a b y hy => ?_, fun a b a' b' y y' hy hy' he => ?_⟩
  · rw [hG] at hy
    by_cases hab : a = k ∧ b = i
    · rw [if_pos hab] at hy
      obtain ⟨rfl, rfl⟩ := hab
      cases hy
      rw [nh_ad_new]
      exact ⟨List.mem_append_right _ List.mem_cons_self, va_up_self _ _ _⟩
    · rw [if_neg hab] at hy
      obtain ⟨n1, n2⟩ := h1 a b y hy
      rw [nh_ad_old ad hab]
      exact ⟨List.mem_append_left _ n1, by rw [va_up_ne f x (show ad a b ≠ q from fun z => hq (z ▸ n1)), n2]⟩
  · have old : ∀ (a b : Nat) (y : va_E), G' a b = some y → ¬ (a = k ∧ b = i) → G a b = some y ∧ ad a b ∈ L := by
      intro a b y hy hab
      rw [hG, if_neg hab] at hy
      exact ⟨hy, (h1 a b y hy).1⟩
    by_cases hab : a = k ∧ b = i <;> by_cases hab' : a' = k ∧ b' = i
    · exact ⟨hab.1.trans hab'.1.symm, hab.2.trans hab'.2.symm⟩
    · obtain ⟨-, n1⟩ := old a' b' y' hy' hab'
      rw [nh_ad_old ad hab', hab.1, hab.2, nh_ad_new] at he
      exact absurd n1 (he ▸ hq)
    · obtain ⟨-, n1⟩ := old a b y hy hab
      rw [nh_ad_old ad hab, hab'.1, hab'.2, nh_ad_new] at he
      exact absurd n1 (he ▸ hq)
    · rw [nh_ad_old ad hab, nh_ad_old ad hab'] at he
      exact h2 a b a' b' y y' (old a b y hy hab).1 (old a' b' y' hy' hab').1 he
theorem nh_M.kept {H1 : Heap} (h : nh_M D cl A ad G H) (hk : ∀ q : Nat, A q → H1[q]? = H[q]?) : nh_M D cl A ad G H1 := by
  obtain ⟨L, f, hP, hD, h1, h2⟩ := h
  exact ⟨L, f, hP.kept (fun k q hq => hk q.1 (hD.2 k q hq)), hD, h1, h2⟩
theorem nh_M.to (h : nh_M D cl A ad G H) (hG : ∀ a b : Nat, G' a b = G a b) : nh_M D cl A ad G' H := by
  have : G' = G := by funext a b; exact hG a b
  rw [this]; exact h
/-- an array's class has one number -/
theorem nh_one {i j : Nat} {c1 c2 : ClassId} {ty : FieldType} (hK : va_K D cl tys s) (h1 : tys[i]? = some (c1, ty)) (h2 : tys[j]? = some (c2, ty)) : c1 = c2 := by
  have a1 := (hK.2 i _ h1).2
  have a2 := (hK.2 j _ h2).2
  cases ty with
  | object C =>
    obtain ⟨_, _, -, -, -, b1⟩ := a1
    obtain ⟨_, _, -, -, -, b2⟩ := a2
    exact Option.some.inj (b1.symm.trans b2)
  | _ => exact Option.some.inj (Eq.trans (Eq.symm a1) a2)
end NHeap
end
section
/-! The memory read by fields: int cells I kind number place, long cells J, references in arrays P; a shape says what a name is. -/
abbrev nf_F : Type := Nat × Nat
abbrev nf_O : Type := (Nat × List nf_F) ⊕ (ClassId × Nat × Nat)
abbrev nf_I : Type := Nat → Nat → Nat → Int32
abbrev nf_J : Type := Nat → Nat → Nat → Int64
abbrev nf_P : Type := Nat → Nat → Nat → Option (Nat × Nat)
abbrev nf_H : Type := Nat → Nat → Option nf_O
abbrev nf_A : Type := Nat → Nat → Nat
def nf_v (ad : nf_A) (I : nf_I) (J : nf_J) (k i n : Nat) (f : nf_F) : Value := match f.1 with
  | 0 => .int (I k i n)
  | 1 => .long (J k i n)
  | 2 => .ref (ad f.2 i)
  | _ => .null
def nf_fs (ad : nf_A) (I : nf_I) (J : nf_J) (k i : Nat) : Nat → List nf_F → List Value
  | _, [] => []
  | n, f :: fs => nf_v ad I J k i n f :: nf_fs ad I J k i (n + 1) fs
def nf_rf (ad : nf_A) (P : nf_P) (k i : Nat) : Nat → Option Nat := fun j => (P k i j).map (fun q => ad q.1 q.2)
def nf_c (ad : nf_A) (I : nf_I) (J : nf_J) (P : nf_P) (k i : Nat) (s : nf_O) : va_E := match s with
  | .inl o => .inr (o.1, nf_fs ad I J k i 0 o.2)
  | .inr (cA, n, 0) => .inl (cA, n, .inl (I k i))
  | .inr (cA, n, 1) => .inl (cA, n, .inr (.inl (J k i)))
  | .inr (cA, n, _) => .inl (cA, n, .inr (.inr (.inr (.inr (nf_rf ad P k i)))))
def nf_G (sh : nf_H) (ad : nf_A) (I : nf_I) (J : nf_J) (P : nf_P) : Nat → Nat → Option va_E := fun k i => (sh k i).map (nf_c ad I J P k i)
/-- the cell (k, i) of shape s refers to q -/
def nf_re (P : nf_P) (k i : Nat) (s : nf_O) (q : Nat × Nat) : Prop := match s with
  | .inl o => ∃ f ∈ o.2, f.1 = 2 ∧ q = (f.2, i)
  | .inr _ => ∃ j, P k i j = some q
def nf_ok (sh : nf_H) (P : nf_P) : Prop := ∀ (a b : Nat) (s : nf_O), sh a b = some s → ∀ q : Nat × Nat, nf_re P a b s q → ∃ s', sh q.1 q.2 = some s'
def nf_iu (I : nf_I) (k i n : Nat) (v : Int32) : nf_I := fun a b c => if a = k ∧ b = i ∧ c = n then v else I a b c
def nf_ju (J : nf_J) (k i n : Nat) (v : Int64) : nf_J := fun a b c => if a = k ∧ b = i ∧ c = n then v else J a b c
def nf_pu (P : nf_P) (k i n : Nat) (v : Option (Nat × Nat)) : nf_P := fun a b c => if a = k ∧ b = i ∧ c = n then v else P a b c
def nf_iz (I : nf_I) (k i : Nat) : nf_I := fun a b c => if a = k ∧ b = i then 0 else I a b c
def nf_jz (J : nf_J) (k i : Nat) : nf_J := fun a b c => if a = k ∧ b = i then 0 else J a b c
def nf_pz (P : nf_P) (k i : Nat) : nf_P := fun a b c => if a = k ∧ b = i then none else P a b c
def nf_su (sh : nf_H) (k i : Nat) (x : nf_O) : nf_H := fun a b => if a = k ∧ b = i then some x else sh a b
theorem nf_iu_s (I : nf_I) (k i n : Nat) (v : Int32) : nf_iu I k i n v k i n = v := by simp [nf_iu]
theorem nf_ju_s (J : nf_J) (k i n : Nat) (v : Int64) : nf_ju J k i n v k i n = v := by simp [nf_ju]
theorem nf_iu_n (I : nf_I) {k i n a b c : Nat} (v : Int32) (h : ¬ (a = k ∧ b = i ∧ c = n)) : nf_iu I k i n v a b c = I a b c := by simp only [nf_iu, if_neg h]
theorem nf_ju_n (J : nf_J) {k i n a b c : Nat} (v : Int64) (h : ¬ (a = k ∧ b = i ∧ c = n)) : nf_ju J k i n v a b c = J a b c := by simp only [nf_ju, if_neg h]
theorem nf_pu_n (P : nf_P) {k i n a b c : Nat} (v : Option (Nat × Nat)) (h : ¬ (a = k ∧ b = i ∧ c = n)) : nf_pu P k i n v a b c = P a b c := by simp only [nf_pu, if_neg h]
theorem nf_su_s (sh : nf_H) (k i : Nat) (x : nf_O) : nf_su sh k i x k i = some x := by simp [nf_su]
theorem nf_su_n (sh : nf_H) {k i a b : Nat} (x : nf_O) (h : ¬ (a = k ∧ b = i)) : nf_su sh k i x a b = sh a b := by simp only [nf_su, if_neg h]
section NField
variable {p : Program} {l : Launch} {e : Env} {R : Room} {s : State} {m : MethodId} {args : Array Value} {below : List Frame} {meth : Method} {c : Code} {H : Heap} {locs : List Loc} {cells slots : Nat} {Q : State → Prop}
variable {cc : ByteArray} {pc : Nat} {ls : Array Slot} {rest : List Value} {D : va_G} {cl : List vw_C} {A : Nat → Prop} {tys : List (ClassId × FieldType)} {H0 : Heap} {ad ad' : nf_A} {sh : nf_H} {I I' : nf_I} {J J' : nf_J} {P P' : nf_P} {k i : Nat}
theorem nf_fs_get : ∀ (fs : List nf_F) (m n : Nat), (nf_fs ad I J k i m fs)[n]? = (fs[n]?).map (nf_v ad I J k i (m + n))
  | [], m, n => by simp [nf_fs]
  | f :: fs, m, 0 => by simp [nf_fs]
  | f :: fs, m, n + 1 => by
    have h := nf_fs_get fs (m + 1) n
    simp only [nf_fs, List.getElem?_cons_succ]
    rw [h, show m + 1 + n = m + (n + 1) by omega]
theorem nf_fs_len : ∀ (fs : List nf_F) (m : Nat), (nf_fs ad I J k i m fs).length = fs.length
  | [], m => rfl
  | f :: fs, m => by simp [nf_fs, nf_fs_len fs (m + 1)]
theorem nf_c_congr (s : nf_O) (hI : ∀ c, I' k i c = I k i c) (hJ : ∀ c, J' k i c = J k i c) (hP : ∀ c, P' k i c = P k i c) (had : ∀ q : Nat × Nat, nf_re P k i s q → ad' q.1 q.2 = ad q.1 q.2) : nf_c ad' I' J' P' k i s = nf_c ad I J P k i s := by
  match s with
  | .inl (ci, fs) =>
    have h : nf_fs ad' I' J' k i 0 fs = nf_fs ad I J k i 0 fs := by
      apply List.ext_getElem?
      intro n
      rw [nf_fs_get, nf_fs_get]
      cases hf : fs[n]? with
      | none => rfl
      | some f =>
        obtain ⟨t, z⟩ := f
        have hm : (t, z) ∈ fs := List.mem_of_getElem? hf
        match t with
        | 0 => simp [nf_v, hI]
        | 1 => simp [nf_v, hJ]
        | 2 =>
          have := had (z, i) ⟨(2, z), hm, rfl, rfl⟩
          simp only [Option.map_some, nf_v]
          rw [this]
        | t + 3 => rfl
    show Sum.inr (ci, nf_fs ad' I' J' k i 0 fs) = _
    rw [h]
    rfl
  | .inr (cA, n, 0) =>
    show Sum.inl (cA, n, Sum.inl (I' k i)) = _
    rw [show I' k i = I k i from funext hI]
    rfl
  | .inr (cA, n, 1) =>
    show Sum.inl (cA, n, Sum.inr (Sum.inl (J' k i))) = _
    rw [show J' k i = J k i from funext hJ]
    rfl
  | .inr (cA, n, t + 2) =>
    have h : nf_rf ad' P' k i = nf_rf ad P k i := by
      funext j
      unfold nf_rf
      rw [hP]
      cases hq : P k i j with
      | none => rfl
      | some q =>
        simp only [Option.map_some]
        rw [had q ⟨j, hq⟩]
    show Sum.inl (cA, n, Sum.inr (Sum.inr (Sum.inr (Sum.inr (nf_rf ad' P' k i))))) = _
    rw [h]
    rfl
theorem nf_G_at {x : nf_O} (hg : sh k i = some x) : nf_G sh ad I J P k i = some (nf_c ad I J P k i x) := by
  unfold nf_G
  rw [hg]
  rfl
theorem nf_G_off {k i a b : Nat} (hI : ∀ c, I' a b c = I a b c) (hJ : ∀ c, J' a b c = J a b c) (hP : ∀ c, P' a b c = P a b c) : nf_G sh ad I' J' P' a b = nf_G sh ad I J P a b := by
  unfold nf_G
  cases sh a b with
  | none => rfl
  | some x =>
    simp only [Option.map_some]
    rw [nf_c_congr x hI hJ hP (fun _ _ => rfl)]
theorem nf_set_i {ci n z : Nat} {fs : List nf_F} {v : Int32} (hg : sh k i = some (.inl (ci, fs))) (hf : fs[n]? = some (0, z)) : ∀ a b : Nat, nf_G sh ad (nf_iu I k i n v) J P a b = if a = k ∧ b = i then some (.inr (ci, (nf_fs ad I J k i 0 fs).set n (.int v))) else nf_G sh ad I J P a b := by
  intro a b
  by_cases hab : a = k ∧ b = i
  · obtain ⟨rfl, rfl⟩ := hab
    rw [if_pos ⟨rfl, rfl⟩, nf_G_at hg]
    have h : nf_fs ad (nf_iu I a b n v) J a b 0 fs = (nf_fs ad I J a b 0 fs).set n (.int v) := by
      apply List.ext_getElem?
      intro q
      rw [nf_fs_get, List.getElem?_set]
      by_cases hq : n = q
      · subst hq
        have hlt : n < fs.length := (List.getElem?_eq_some_iff.mp hf).1
        rw [if_pos rfl, if_pos (by rw [nf_fs_len]; exact hlt), hf]
        simp [nf_v, nf_iu]
      · rw [if_neg hq, nf_fs_get]
        cases hf2 : fs[q]? with
        | none => rfl
        | some f =>
          obtain ⟨t, y⟩ := f
          match t with
          | 0 =>
            have hne : ¬ (a = a ∧ b = b ∧ 0 + q = n) := fun h => hq (by omega)
            simp only [Option.map_some, nf_v]
            rw [nf_iu_n I v hne]
          | 1 => rfl
          | 2 => rfl
          | t + 3 => rfl
    show some (Sum.inr (ci, nf_fs ad (nf_iu I a b n v) J a b 0 fs)) = _
    rw [h]
  · rw [if_neg hab]
    exact nf_G_off (k := k) (i := i) (fun c => nf_iu_n I v (fun h => hab ⟨h.1, h.2.1⟩)) (fun _ => rfl) (fun _ => rfl)
theorem nf_set_l {ci n z : Nat} {fs : List nf_F} {v : Int64} (hg : sh k i = some (.inl (ci, fs))) (hf : fs[n]? = some (1, z)) : ∀ a b : Nat, nf_G sh ad I (nf_ju J k i n v) P a b = if a = k ∧ b = i then some (.inr (ci, (nf_fs ad I J k i 0 fs).set n (.long v))) else nf_G sh ad I J P a b := by
  intro a b
  by_cases hab : a = k ∧ b = i
  · obtain ⟨rfl, rfl⟩ := hab
    rw [if_pos ⟨rfl, rfl⟩, nf_G_at hg]
    have h : nf_fs ad I (nf_ju J a b n v) a b 0 fs = (nf_fs ad I J a b 0 fs).set n (.long v) := by
      apply List.ext_getElem?
      intro q
      rw [nf_fs_get, List.getElem?_set]
      by_cases hq : n = q
      · subst hq
        have hlt : n < fs.length := (List.getElem?_eq_some_iff.mp hf).1
        rw [if_pos rfl, if_pos (by rw [nf_fs_len]; exact hlt), hf]
        simp [nf_v, nf_ju]
      · rw [if_neg hq, nf_fs_get]
        cases hf2 : fs[q]? with
        | none => rfl
        | some f =>
          obtain ⟨t, y⟩ := f
          match t with
          | 0 => rfl
          | 1 =>
            have hne : ¬ (a = a ∧ b = b ∧ 0 + q = n) := fun h => hq (by omega)
            simp only [Option.map_some, nf_v]
            rw [nf_ju_n J v hne]
          | 2 => rfl
          | t + 3 => rfl
    show some (Sum.inr (ci, nf_fs ad I (nf_ju J a b n v) a b 0 fs)) = _
    rw [h]
  · rw [if_neg hab]
    exact nf_G_off (k := k) (i := i) (fun _ => rfl) (fun c => nf_ju_n J v (fun h => hab ⟨h.1, h.2.1⟩)) (fun _ => rfl)
theorem nf_set_ia {cA : ClassId} {n j : Nat} {v : Int32} (hg : sh k i = some (.inr (cA, n, 0))) : ∀ a b : Nat, nf_G sh ad (nf_iu I k i j v) J P a b = if a = k ∧ b = i then some (.inl (cA, n, .inl (upd (I k i) j v))) else nf_G sh ad I J P a b := by
  intro a b
  by_cases hab : a = k ∧ b = i
  · obtain ⟨rfl, rfl⟩ := hab
    rw [if_pos ⟨rfl, rfl⟩, nf_G_at hg]
    have h : nf_iu I a b j v a b = upd (I a b) j v := by
      funext q
      by_cases hq : q = j
      · subst hq
        rw [nf_iu_s, pk_us]
      · rw [nf_iu_n I v (fun h => hq h.2.2), pk_un hq]
    show some (Sum.inl (cA, n, Sum.inl (nf_iu I a b j v a b))) = _
    rw [h]
  · rw [if_neg hab]
    exact nf_G_off (k := k) (i := i) (fun c => nf_iu_n I v (fun h => hab ⟨h.1, h.2.1⟩)) (fun _ => rfl) (fun _ => rfl)
theorem nf_set_la {cA : ClassId} {n j : Nat} {v : Int64} (hg : sh k i = some (.inr (cA, n, 1))) : ∀ a b : Nat, nf_G sh ad I (nf_ju J k i j v) P a b = if a = k ∧ b = i then some (.inl (cA, n, .inr (.inl (vp_updL (J k i) j v)))) else nf_G sh ad I J P a b := by
  intro a b
  by_cases hab : a = k ∧ b = i
  · obtain ⟨rfl, rfl⟩ := hab
    rw [if_pos ⟨rfl, rfl⟩, nf_G_at hg]
    have h : nf_ju J a b j v a b = vp_updL (J a b) j v := by
      funext q
      by_cases hq : q = j
      · subst hq
        rw [nf_ju_s, pk_uLs]
      · rw [nf_ju_n J v (fun h => hq h.2.2), pk_uLn hq]
    show some (Sum.inl (cA, n, Sum.inr (Sum.inl (nf_ju J a b j v a b)))) = _
    rw [h]
  · rw [if_neg hab]
    exact nf_G_off (k := k) (i := i) (fun _ => rfl) (fun c => nf_ju_n J v (fun h => hab ⟨h.1, h.2.1⟩)) (fun _ => rfl)
theorem nf_set_pa {cA : ClassId} {n j k2 i2 : Nat} (hg : sh k i = some (.inr (cA, n, 2))) : ∀ a b : Nat, nf_G sh ad I J (nf_pu P k i j (some (k2, i2))) a b = if a = k ∧ b = i then some (.inl (cA, n, .inr (.inr (.inr (.inr (va_up (nf_rf ad P k i) j (some (ad k2 i2)))))))) else nf_G sh ad I J P a b := by
  intro a b
  by_cases hab : a = k ∧ b = i
  · obtain ⟨rfl, rfl⟩ := hab
    rw [if_pos ⟨rfl, rfl⟩, nf_G_at hg]
    have h : nf_rf ad (nf_pu P a b j (some (k2, i2))) a b = va_up (nf_rf ad P a b) j (some (ad k2 i2)) := by
      funext q
      by_cases hq : q = j
      · subst hq
        rw [va_up_self]
        simp [nf_rf, nf_pu]
      · rw [va_up_ne _ _ hq]
        simp only [nf_rf]
        rw [nf_pu_n P _ (fun h => hq h.2.2)]
    show some (Sum.inl (cA, n, Sum.inr (Sum.inr (Sum.inr (Sum.inr (nf_rf ad (nf_pu P a b j (some (k2, i2))) a b)))))) = _
    rw [h]
  · rw [if_neg hab]
    exact nf_G_off (k := k) (i := i) (fun _ => rfl) (fun _ => rfl) (fun c => nf_pu_n P _ (fun h => hab ⟨h.1, h.2.1⟩))
/-- the memory, all of it from Bs on, since H0 -/
def nf_M (D : va_G) (cl : List vw_C) (Bs : Nat) (sh : nf_H) (ad : nf_A) (I : nf_I) (J : nf_J) (P : nf_P) (H0 H : Heap) (locs : List Loc) : Prop :=
  nh_M D cl (fun q => Bs ≤ q) ad (nf_G sh ad I J P) H ∧ nf_ok sh P ∧ va_S (fun q => Bs ≤ q) H0 H locs ∧ Bs ≤ H0.size
/-- what a method's walk stands on -/
abbrev nf_C (p : Program) (m : MethodId) (c : Code) (cc : ByteArray) (nL : Nat) (s : State) (args : Array Value) (Ts : List Cond) (own : String) (D : va_G) (cl : List vw_C) (tys : List (ClassId × FieldType)) : Prop := CallFix p m c cc nL s args Ts own ∧ va_K D cl tys s
variable {nL Bs N ci index n z : Nat} {Ts : List Cond} {own C : String} {T : u_T} {fs : List nf_F}
theorem nf_vget {f : nf_F} (hf : fs[n]? = some f) : (nf_fs ad I J k i 0 fs)[n]? = some (nf_v ad I J k i n f) := by
  rw [nf_fs_get, hf]
  simp
theorem nf_geti (hC : nf_C p m c cc nL s args Ts own D cl tys) (hin : ∀ w ∈ u_ws C T N, w ∈ Ts) (hM : nf_M D cl Bs sh ad I J P H0 H locs) (hg : sh k i = some (.inl (ci, fs))) (hc : cl[ci]? = some (C, T, N)) (n : Nat) (hn : n < N) (hlink : Cond.fieldLink own index (T n).1 (T n).2.1 (T n).2.2.1 ∈ Ts) (hf : fs[n]? = some (0, z)) (hdg : decode cc pc = .ok (.getfield index, 3))
    (kk : W p l e R s m args below meth c H locs cells slots Q (F0 m (pc + 3) ls (.int (I k i n) :: rest))) : W p l e R s m args below meth c H locs cells slots Q (F0 m pc ls (.ref (ad k i) :: rest)) := by
  obtain ⟨⟨hx, hb, hml, hown, hts⟩, hK⟩ := hC
  obtain ⟨ws, q0, hP, hq⟩ := nh_at hM.1 (nf_G_at hg)
  exact va_get hx hb hts hin hown hK hP q0 hq hc n hn (hts _ hlink) (fun _ h => h) (nf_vget hf) hdg kk
theorem nf_getl (hC : nf_C p m c cc nL s args Ts own D cl tys) (hin : ∀ w ∈ u_ws C T N, w ∈ Ts) (hM : nf_M D cl Bs sh ad I J P H0 H locs) (hg : sh k i = some (.inl (ci, fs))) (hc : cl[ci]? = some (C, T, N)) (n : Nat) (hn : n < N) (hlink : Cond.fieldLink own index (T n).1 (T n).2.1 (T n).2.2.1 ∈ Ts) (hf : fs[n]? = some (1, z)) (hdg : decode cc pc = .ok (.getfield index, 3))
    (kk : W p l e R s m args below meth c H locs cells slots Q (F0 m (pc + 3) ls (.long (J k i n) :: rest))) : W p l e R s m args below meth c H locs cells slots Q (F0 m pc ls (.ref (ad k i) :: rest)) := by
  obtain ⟨⟨hx, hb, hml, hown, hts⟩, hK⟩ := hC
  obtain ⟨ws, q0, hP, hq⟩ := nh_at hM.1 (nf_G_at hg)
  exact va_get hx hb hts hin hown hK hP q0 hq hc n hn (hts _ hlink) (fun _ h => h) (nf_vget hf) hdg kk
theorem nf_getr (hC : nf_C p m c cc nL s args Ts own D cl tys) (hin : ∀ w ∈ u_ws C T N, w ∈ Ts) (hM : nf_M D cl Bs sh ad I J P H0 H locs) (hg : sh k i = some (.inl (ci, fs))) (hc : cl[ci]? = some (C, T, N)) (n : Nat) (hn : n < N) (hlink : Cond.fieldLink own index (T n).1 (T n).2.1 (T n).2.2.1 ∈ Ts) (hf : fs[n]? = some (2, z)) (hdg : decode cc pc = .ok (.getfield index, 3))
    (kk : W p l e R s m args below meth c H locs cells slots Q (F0 m (pc + 3) ls (.ref (ad z i) :: rest))) : W p l e R s m args below meth c H locs cells slots Q (F0 m pc ls (.ref (ad k i) :: rest)) := by
  obtain ⟨⟨hx, hb, hml, hown, hts⟩, hK⟩ := hC
  obtain ⟨ws, q0, hP, hq⟩ := nh_at hM.1 (nf_G_at hg)
  exact va_get hx hb hts hin hown hK hP q0 hq hc n hn (hts _ hlink) (fun _ h => h) (nf_vget hf) hdg kk
theorem nf_puti (hC : nf_C p m c cc nL s args Ts own D cl tys) (hin : ∀ w ∈ u_ws C T N, w ∈ Ts) (ty0 : Nat → FieldType) (hty : ∀ k, k < N → parseFieldDescriptor (T k).2.2.1 = some (ty0 k)) (hnm : ∀ a, a < N → ∀ b, b < N → a ≠ b → (T a).2.1 ≠ (T b).2.1) (hM : nf_M D cl Bs sh ad I J P H0 H locs) (hg : sh k i = some (.inl (ci, fs))) (hc : cl[ci]? = some (C, T, N)) (n : Nat) (hn : n < N) (hlink : Cond.fieldLink own index (T n).1 (T n).2.1 (T n).2.2.1 ∈ Ts) (hfin : (T n).2.2.2 = false) (hd : parseFieldDescriptor (T n).2.2.1 = some .int) (hf : fs[n]? = some (0, z)) {v : Int32} (hdg : decode cc pc = .ok (.putfield index, 3))
    (kk : ∀ (H1 : Heap) (locs1 : List Loc), nf_M D cl Bs sh ad (nf_iu I k i n v) J P H0 H1 locs1 → W p l e R s m args below meth c H1 locs1 cells slots Q (F0 m (pc + 3) ls rest)) : W p l e R s m args below meth c H locs cells slots Q (F0 m pc ls (.int v :: .ref (ad k i) :: rest)) := by
  obtain ⟨⟨hx, hb, hml, hown, hts⟩, hK⟩ := hC
  obtain ⟨hM, hok, hS, hB⟩ := hM
  obtain ⟨ws, q0, hP, hD, hq, -, hset⟩ := nh_set hM (nf_G_at hg) (nf_set_i (ad := ad) (I := I) (J := J) (P := P) (v := v) hg hf)
  exact va_put hx hb hts hin ty0 hty hnm hown hK hP hD hS q0 hq hc n hn (hts _ hlink) (fun _ h => h) hfin hd rfl rfl (by rw [nf_fs_len]; exact (List.getElem?_eq_some_iff.mp hf).1) hdg (fun H1 locs1 a1 a2 a3 => kk H1 locs1 ⟨hset H1 a1 a2, hok, a3, hB⟩)
theorem nf_putl (hC : nf_C p m c cc nL s args Ts own D cl tys) (hin : ∀ w ∈ u_ws C T N, w ∈ Ts) (ty0 : Nat → FieldType) (hty : ∀ k, k < N → parseFieldDescriptor (T k).2.2.1 = some (ty0 k)) (hnm : ∀ a, a < N → ∀ b, b < N → a ≠ b → (T a).2.1 ≠ (T b).2.1) (hM : nf_M D cl Bs sh ad I J P H0 H locs) (hg : sh k i = some (.inl (ci, fs))) (hc : cl[ci]? = some (C, T, N)) (n : Nat) (hn : n < N) (hlink : Cond.fieldLink own index (T n).1 (T n).2.1 (T n).2.2.1 ∈ Ts) (hfin : (T n).2.2.2 = false) (hd : parseFieldDescriptor (T n).2.2.1 = some .long) (hf : fs[n]? = some (1, z)) {v : Int64} (hdg : decode cc pc = .ok (.putfield index, 3))
    (kk : ∀ (H1 : Heap) (locs1 : List Loc), nf_M D cl Bs sh ad I (nf_ju J k i n v) P H0 H1 locs1 → W p l e R s m args below meth c H1 locs1 cells slots Q (F0 m (pc + 3) ls rest)) : W p l e R s m args below meth c H locs cells slots Q (F0 m pc ls (.long v :: .ref (ad k i) :: rest)) := by
  obtain ⟨⟨hx, hb, hml, hown, hts⟩, hK⟩ := hC
  obtain ⟨hM, hok, hS, hB⟩ := hM
  obtain ⟨ws, q0, hP, hD, hq, -, hset⟩ := nh_set hM (nf_G_at hg) (nf_set_l (ad := ad) (I := I) (J := J) (P := P) (v := v) hg hf)
  exact va_put hx hb hts hin ty0 hty hnm hown hK hP hD hS q0 hq hc n hn (hts _ hlink) (fun _ h => h) hfin hd rfl rfl (by rw [nf_fs_len]; exact (List.getElem?_eq_some_iff.mp hf).1) hdg (fun H1 locs1 a1 a2 a3 => kk H1 locs1 ⟨hset H1 a1 a2, hok, a3, hB⟩)
end NField
end
section
/-! Rows over the memory by fields: arrays, new cells, a method's start and end, calls. -/
section NRows
variable {p : Program} {l : Launch} {e : Env} {R : Room} {s : State} {m : MethodId} {args : Array Value} {below : List Frame} {meth : Method} {c : Code} {H : Heap} {locs : List Loc} {cells slots : Nat} {Q : State → Prop}
variable {cc : ByteArray} {pc : Nat} {ls : Array Slot} {rest : List Value} {D : va_G} {cl : List vw_C} {tys : List (ClassId × FieldType)} {H0 : Heap} {ad ad' : nf_A} {sh : nf_H} {I I' I1 : nf_I} {J J' J1 : nf_J} {P P' P1 : nf_P} {k i : Nat}
variable {nL Bs N ci index n z : Nat} {Ts : List Cond} {own C : String} {T : u_T} {fs : List nf_F} {cA : ClassId}
theorem nf_iald (hC : nf_C p m c cc nL s args Ts own D cl tys) (hM : nf_M D cl Bs sh ad I J P H0 H locs) (t0 : Nat) (hg : sh k i = some (.inr (cA, n, 0))) (ht : tys[t0]? = some (cA, .int)) {j : Int32} (jn : Nat) (hj : j = nI jn) (hlt : jn < n) (hn : n < 2 ^ 31) (hdg : decode cc pc = .ok (.iaload, 1))
    (kk : W p l e R s m args below meth c H locs cells slots Q (F0 m (pc + 1) ls (.int (I k i jn) :: rest))) : W p l e R s m args below meth c H locs cells slots Q (F0 m pc ls (.int j :: .ref (ad k i) :: rest)) := by
  obtain ⟨⟨hx, hb, hml, hown, hts⟩, hK⟩ := hC
  obtain ⟨ws, q0, hP, hq⟩ := nh_at hM.1 (nf_G_at hg)
  have hcl : j.toNatClampNeg = jn := by rw [hj]; exact nI_clamp (by omega)
  refine va_iald hx hb hK hP q0 t0 hq ht (by rw [hj]; exact vp_in_nI hlt hn) hdg ?_
  rw [hcl]
  exact kk
theorem nf_lald (hC : nf_C p m c cc nL s args Ts own D cl tys) (hM : nf_M D cl Bs sh ad I J P H0 H locs) (t0 : Nat) (hg : sh k i = some (.inr (cA, n, 1))) (ht : tys[t0]? = some (cA, .long)) {j : Int32} (jn : Nat) (hj : j = nI jn) (hlt : jn < n) (hn : n < 2 ^ 31) (hdg : decode cc pc = .ok (.laload, 1))
    (kk : W p l e R s m args below meth c H locs cells slots Q (F0 m (pc + 1) ls (.long (J k i jn) :: rest))) : W p l e R s m args below meth c H locs cells slots Q (F0 m pc ls (.int j :: .ref (ad k i) :: rest)) := by
  obtain ⟨⟨hx, hb, hml, hown, hts⟩, hK⟩ := hC
  obtain ⟨ws, q0, hP, hq⟩ := nh_at hM.1 (nf_G_at hg)
  have hcl : j.toNatClampNeg = jn := by rw [hj]; exact nI_clamp (by omega)
  refine va_lald hx hb hK hP q0 t0 hq ht (by rw [hj]; exact vp_in_nI hlt hn) hdg ?_
  rw [hcl]
  exact kk
theorem nf_aald (hC : nf_C p m c cc nL s args Ts own D cl tys) (hM : nf_M D cl Bs sh ad I J P H0 H locs) (t0 : Nat) (hg : sh k i = some (.inr (cA, n, 2))) (ht : tys[t0]? = some (cA, .object C)) {j : Int32} (jn : Nat) (hj : j = nI jn) (hlt : jn < n) (hn : n < 2 ^ 31) {k2 i2 : Nat} (hp : P k i jn = some (k2, i2)) (hdg : decode cc pc = .ok (.aaload, 1))
    (kk : W p l e R s m args below meth c H locs cells slots Q (F0 m (pc + 1) ls (.ref (ad k2 i2) :: rest))) : W p l e R s m args below meth c H locs cells slots Q (F0 m pc ls (.int j :: .ref (ad k i) :: rest)) := by
  obtain ⟨⟨hx, hb, hml, hown, hts⟩, hK⟩ := hC
  obtain ⟨ws, q0, hP, hq⟩ := nh_at hM.1 (nf_G_at hg)
  have hcl : j.toNatClampNeg = jn := by rw [hj]; exact nI_clamp (by omega)
  refine va_aldq hx hb hK hP q0 t0 hq ht (by rw [hj]; exact vp_in_nI hlt hn) hdg ?_
  have hv : nf_rf ad P k i jn = some (ad k2 i2) := by unfold nf_rf; rw [hp]; rfl
  rw [hcl, hv]
  exact kk
theorem nf_iast (hC : nf_C p m c cc nL s args Ts own D cl tys) (hM : nf_M D cl Bs sh ad I J P H0 H locs) (t0 : Nat) (hg : sh k i = some (.inr (cA, n, 0))) (ht : tys[t0]? = some (cA, .int)) {j v : Int32} (jn : Nat) (hj : j = nI jn) (hlt : jn < n) (hn : n < 2 ^ 31) (hdg : decode cc pc = .ok (.iastore, 1))
    (kk : ∀ (H1 : Heap) (locs1 : List Loc), nf_M D cl Bs sh ad (nf_iu I k i jn v) J P H0 H1 locs1 → W p l e R s m args below meth c H1 locs1 cells slots Q (F0 m (pc + 1) ls rest)) : W p l e R s m args below meth c H locs cells slots Q (F0 m pc ls (.int v :: .int j :: .ref (ad k i) :: rest)) := by
  obtain ⟨⟨hx, hb, hml, hown, hts⟩, hK⟩ := hC
  obtain ⟨hM, hok, hS, hB⟩ := hM
  have hcl : j.toNatClampNeg = jn := by rw [hj]; exact nI_clamp (by omega)
  obtain ⟨ws, q0, hP, hD, hq, -, hset⟩ := nh_set hM (nf_G_at hg) (nf_set_ia (ad := ad) (I := I) (J := J) (P := P) (j := jn) (v := v) hg)
  exact va_iast hx hb hK hP hD hS q0 t0 hq ht (by rw [hj]; exact vp_in_nI hlt hn) hdg (fun H1 locs1 a1 a2 a3 => kk H1 locs1 ⟨hset H1 (by rw [← hcl]; exact a1) (by rw [← hcl]; exact a2), hok, a3, hB⟩)
theorem nf_last (hC : nf_C p m c cc nL s args Ts own D cl tys) (hM : nf_M D cl Bs sh ad I J P H0 H locs) (t0 : Nat) (hg : sh k i = some (.inr (cA, n, 1))) (ht : tys[t0]? = some (cA, .long)) {j : Int32} {v : Int64} (jn : Nat) (hj : j = nI jn) (hlt : jn < n) (hn : n < 2 ^ 31) (hdg : decode cc pc = .ok (.lastore, 1))
    (kk : ∀ (H1 : Heap) (locs1 : List Loc), nf_M D cl Bs sh ad I (nf_ju J k i jn v) P H0 H1 locs1 → W p l e R s m args below meth c H1 locs1 cells slots Q (F0 m (pc + 1) ls rest)) : W p l e R s m args below meth c H locs cells slots Q (F0 m pc ls (.long v :: .int j :: .ref (ad k i) :: rest)) := by
  obtain ⟨⟨hx, hb, hml, hown, hts⟩, hK⟩ := hC
  obtain ⟨hM, hok, hS, hB⟩ := hM
  have hcl : j.toNatClampNeg = jn := by rw [hj]; exact nI_clamp (by omega)
  obtain ⟨ws, q0, hP, hD, hq, -, hset⟩ := nh_set hM (nf_G_at hg) (nf_set_la (ad := ad) (I := I) (J := J) (P := P) (j := jn) (v := v) hg)
  exact va_last hx hb hK hP hD hS q0 t0 hq ht (by rw [hj]; exact vp_in_nI hlt hn) hdg (fun H1 locs1 a1 a2 a3 => kk H1 locs1 ⟨hset H1 (by rw [← hcl]; exact a1) (by rw [← hcl]; exact a2), hok, a3, hB⟩)
theorem nf_ok_pu {j k2 i2 : Nat} {x : nf_O} (hok : nf_ok sh P) (hv : sh k2 i2 = some x) : nf_ok sh (nf_pu P k i j (some (k2, i2))) := by
  intro a b s hs q hq
  match s with
  | .inl o => exact hok a b _ hs q hq
  | .inr o =>
    obtain ⟨y, hy⟩ := hq
    unfold nf_pu at hy
    split at hy
    · cases hy
      exact ⟨x, hv⟩
    · exact hok a b _ hs q ⟨y, hy⟩
theorem nf_aast (hC : nf_C p m c cc nL s args Ts own D cl tys) (hM : nf_M D cl Bs sh ad I J P H0 H locs) (t0 : Nat) (hg : sh k i = some (.inr (cA, n, 2))) {r : vw_C} (ht : tys[t0]? = some (cA, .object r.1)) {k2 i2 : Nat} (hv : sh k2 i2 = some (.inl (ci, fs))) (hc : cl[ci]? = some r) {j : Int32} (jn : Nat) (hj : j = nI jn) (hlt : jn < n) (hn : n < 2 ^ 31) (hdg : decode cc pc = .ok (.aastore, 1))
    (kk : ∀ (H1 : Heap) (locs1 : List Loc), nf_M D cl Bs sh ad I J (nf_pu P k i jn (some (k2, i2))) H0 H1 locs1 → W p l e R s m args below meth c H1 locs1 cells slots Q (F0 m (pc + 1) ls rest)) : W p l e R s m args below meth c H locs cells slots Q (F0 m pc ls (.ref (ad k2 i2) :: .int j :: .ref (ad k i) :: rest)) := by
  obtain ⟨⟨hx, hb, hml, hown, hts⟩, hK⟩ := hC
  obtain ⟨hM, hok, hS, hB⟩ := hM
  have hcl : j.toNatClampNeg = jn := by rw [hj]; exact nI_clamp (by omega)
  obtain ⟨ws, q0, hP, hD, hq, ho, hset⟩ := nh_set hM (nf_G_at hg) (nf_set_pa (ad := ad) (I := I) (J := J) (P := P) (j := jn) (k2 := k2) (i2 := i2) hg)
  obtain ⟨qk, hk⟩ := ho k2 i2 _ (nf_G_at hv)
  exact va_astq hx hb hK hP hD hS q0 t0 qk ci hq ht hk hc (by rw [hj]; exact vp_in_nI hlt hn) hdg (fun H1 locs1 a1 a2 a3 => kk H1 locs1 ⟨hset H1 (by rw [← hcl]; exact a1) (by rw [← hcl]; exact a2), nf_ok_pu hok hv, a3, hB⟩)
/-! new cells -/
def nf_dv (f : nf_F) : Value := match f.1 with
  | 0 => .int 0
  | 1 => .long 0
  | _ => .null
theorem nf_new_G {q : Nat} {x : nf_O} {E : va_E} (hok : nf_ok sh P) (hs : sh k i = none) (he : nf_c (nh_ad ad k i q) (nf_iz I k i) (nf_jz J k i) (nf_pz P k i) k i x = E) : ∀ a b : Nat, nf_G (nf_su sh k i x) (nh_ad ad k i q) (nf_iz I k i) (nf_jz J k i) (nf_pz P k i) a b = if a = k ∧ b = i then some E else nf_G sh ad I J P a b := by
  intro a b
  by_cases hab : a = k ∧ b = i
  · obtain ⟨rfl, rfl⟩ := hab
    rw [if_pos ⟨rfl, rfl⟩, nf_G_at (nf_su_s _ _ _ _), he]
  · rw [if_neg hab]
    unfold nf_G
    rw [nf_su_n _ _ hab]
    cases hsa : sh a b with
    | none => rfl
    | some y =>
      simp only [Option.map_some]
      rw [nf_c_congr (ad := ad) (I := I) (J := J) (P := P) y (fun c => by simp only [nf_iz, if_neg hab]) (fun c => by simp only [nf_jz, if_neg hab]) (fun c => by simp only [nf_pz, if_neg hab]) (fun q' hq' => ?_)]
      obtain ⟨s', hs'⟩ := hok a b y hsa q' hq'
      exact nh_ad_old ad (fun h => by rw [h.1, h.2, hs] at hs'; cases hs')
theorem nf_new_ok {x : nf_O} (hok : nf_ok sh P) (hs : sh k i = none) (hnr : ∀ q, ¬ nf_re (nf_pz P k i) k i x q) : nf_ok (nf_su sh k i x) (nf_pz P k i) := by
  intro a b s hsa q hq
  have up : ∀ (q : Nat × Nat) (s' : nf_O), sh q.1 q.2 = some s' → ∃ s'', nf_su sh k i x q.1 q.2 = some s'' := by
    intro q s' h
    by_cases hh : q.1 = k ∧ q.2 = i
    · exact ⟨x, by unfold nf_su; rw [if_pos hh]⟩
    · exact ⟨s', by rw [nf_su_n _ _ hh]; exact h⟩
  by_cases hab : a = k ∧ b = i
  · obtain ⟨rfl, rfl⟩ := hab
    rw [nf_su_s] at hsa
    cases hsa
    exact absurd hq (hnr q)
  · rw [nf_su_n _ _ hab] at hsa
    have hq' : nf_re P a b s q := by
      match s with
      | .inl o => exact hq
      | .inr o =>
        obtain ⟨j, hj⟩ := hq
        refine ⟨j, ?_⟩
        simp only [nf_pz, if_neg hab] at hj
        exact hj
    obtain ⟨s', hs'⟩ := hok a b s hsa q hq'
    exact up q s' hs'
theorem nf_newo (hC : nf_C p m c cc nL s args Ts own D cl tys) (hin : ∀ w ∈ u_ws C T N, w ∈ Ts) (ty : Nat → FieldType) (hty : ∀ k, k < N → parseFieldDescriptor (T k).2.2.1 = some (ty k)) (hcl : Cond.classLink own index C ∈ Ts) (hinst : Cond.instantiable C N ∈ Ts) (hini : Cond.initialized C ∈ Ts) (hM : nf_M D cl Bs sh ad I J P H0 H locs) (hc : cl[ci]? = some (C, T, N)) (k i : Nat) (hs : sh k i = none) (fs : List nf_F) (hnr : ∀ f ∈ fs, ¬ f.1 = 2) (hdv : ∀ j, j < N → defaultValue (ty j) = vp_V (fs.map nf_dv) j) (hcells : cells + 1 ≤ R.cells) (hslots : slots + N ≤ R.slots) (hdg : decode cc pc = .ok (.new index, 3))
    (kk : ∀ (q : Nat) (H1 : Heap), nf_M D cl Bs (nf_su sh k i (.inl (ci, fs))) (nh_ad ad k i q) (nf_iz I k i) (nf_jz J k i) (nf_pz P k i) H0 H1 locs → W p l e R s m args below meth c H1 locs (cells + 1) (slots + N) Q (F0 m (pc + 3) ls (.ref (nh_ad ad k i q k i) :: rest))) : W p l e R s m args below meth c H locs cells slots Q (F0 m pc ls rest) := by
  obtain ⟨⟨hx, hb, hml, hown, hts⟩, hK⟩ := hC
  obtain ⟨hM, hok, hS, hB⟩ := hM
  obtain ⟨ws, hP, hD, hpush⟩ := nh_push (k := k) (i := i) (x := .inr (ci, fs.map nf_dv)) hM (by unfold nf_G; rw [hs]; rfl) (fun _ _ => rfl)
  refine va_new hx hb hts hin ty hty hown (hts _ hcl) (hts _ hinst) (hts _ hini) hK hP hD hS (fun q hq => Nat.le_trans hB hq) hc hdv hcells hslots hdg (fun q H1 a1 a2 a3 => ?_)
  have hkk := kk q H1 ⟨(hpush q H1 a1 a2).to (nf_new_G hok hs ?_), nf_new_ok hok hs (fun q' hq' => ?_), a3, hB⟩
  · rw [nh_ad_new] at hkk
    exact hkk
  · show Sum.inr (ci, _) = Sum.inr (ci, _)
    congr 2
    apply List.ext_getElem?
    intro q2
    rw [nf_fs_get, List.getElem?_map]
    cases hf : fs[q2]? with
    | none => rfl
    | some f =>
      have h2 := hnr f (List.mem_of_getElem? hf)
      obtain ⟨t, y⟩ := f
      match t with
      | 0 => simp [nf_v, nf_dv, nf_iz]
      | 1 => simp [nf_v, nf_dv, nf_jz]
      | 2 => exact absurd rfl h2
      | t + 3 => rfl
  · obtain ⟨f, h1, h2, -⟩ := hq'
    exact hnr f h1 h2
theorem nf_newi (hC : nf_C p m c cc nL s args Ts own D cl tys) (harr : Cond.arrayClass .int ∈ Ts) (hM : nf_M D cl Bs sh ad I J P H0 H locs) (t0 : Nat) (ht : tys[t0]? = some (cA, .int)) (k i : Nat) (hs : sh k i = none) {j : Int32} (N' : Nat) (hj : j = nI N') (hN : N' < 100000) (hcells : cells + 1 ≤ R.cells) (hslots : slots + N' ≤ R.slots) (hdg : decode cc pc = .ok (.newarray .int, 2))
    (kk : ∀ (q : Nat) (H1 : Heap), nf_M D cl Bs (nf_su sh k i (.inr (cA, N', 0))) (nh_ad ad k i q) (nf_iz I k i) (nf_jz J k i) (nf_pz P k i) H0 H1 locs → W p l e R s m args below meth c H1 locs (cells + 1) (slots + N') Q (F0 m (pc + 2) ls (.ref (nh_ad ad k i q k i) :: rest))) : W p l e R s m args below meth c H locs cells slots Q (F0 m pc ls (.int j :: rest)) := by
  obtain ⟨⟨hx, hb, hml, hown, hts⟩, hK⟩ := hC
  obtain ⟨hM, hok, hS, hB⟩ := hM
  have hcl : j.toNatClampNeg = N' := by rw [hj]; exact nI_clamp (by omega)
  obtain ⟨ws, hP, hD, hpush⟩ := nh_push (k := k) (i := i) (x := .inl (cA, N', .inl (fun _ => 0))) hM (by unfold nf_G; rw [hs]; rfl) (fun _ _ => rfl)
  refine va_newa (atype := .int) (N' := N') (a0 := (N', .inl (fun _ => 0))) (ty := .int) hx hb (hts _ harr) rfl hK hP hD hS (fun q hq => Nat.le_trans hB hq) (fun _ => rfl) (by rw [hj]; exact nI_pos (by omega)) hcl (by simp only [componentBytes]; omega) hcells hslots hdg (fun q cB H1 a0 a1 a2 a3 => ?_)
  have hlt : t0 < tys.length := (List.getElem?_eq_some_iff.mp ht).1
  have e1 : cB = cA := nh_one a0 (i := tys.length) (j := t0) (by rw [List.getElem?_append_right (Nat.le_refl _), Nat.sub_self]; rfl) (by rw [List.getElem?_append_left hlt]; exact ht)
  subst e1
  have hkk := kk q H1 ⟨(hpush q H1 a1 a2).to (nf_new_G hok hs ?_), nf_new_ok hok hs (fun q' hq' => ?_), a3, hB⟩
  · rw [nh_ad_new] at hkk
    exact hkk
  · show Sum.inl (cB, N', Sum.inl (nf_iz I k i k i)) = _
    rw [show nf_iz I k i k i = fun _ => 0 from funext fun c => by simp [nf_iz]]
  · obtain ⟨y, hy⟩ := hq'
    simp [nf_pz] at hy
theorem nf_newl (hC : nf_C p m c cc nL s args Ts own D cl tys) (harr : Cond.arrayClass .long ∈ Ts) (hM : nf_M D cl Bs sh ad I J P H0 H locs) (t0 : Nat) (ht : tys[t0]? = some (cA, .long)) (k i : Nat) (hs : sh k i = none) {j : Int32} (N' : Nat) (hj : j = nI N') (hN : N' < 100000) (hcells : cells + 1 ≤ R.cells) (hslots : slots + N' ≤ R.slots) (hdg : decode cc pc = .ok (.newarray .long, 2))
    (kk : ∀ (q : Nat) (H1 : Heap), nf_M D cl Bs (nf_su sh k i (.inr (cA, N', 1))) (nh_ad ad k i q) (nf_iz I k i) (nf_jz J k i) (nf_pz P k i) H0 H1 locs → W p l e R s m args below meth c H1 locs (cells + 1) (slots + N') Q (F0 m (pc + 2) ls (.ref (nh_ad ad k i q k i) :: rest))) : W p l e R s m args below meth c H locs cells slots Q (F0 m pc ls (.int j :: rest)) := by
  obtain ⟨⟨hx, hb, hml, hown, hts⟩, hK⟩ := hC
  obtain ⟨hM, hok, hS, hB⟩ := hM
  have hcl : j.toNatClampNeg = N' := by rw [hj]; exact nI_clamp (by omega)
  obtain ⟨ws, hP, hD, hpush⟩ := nh_push (k := k) (i := i) (x := .inl (cA, N', .inr (.inl (fun _ => 0)))) hM (by unfold nf_G; rw [hs]; rfl) (fun _ _ => rfl)
  refine va_newa (atype := .long) (N' := N') (a0 := (N', .inr (.inl (fun _ => 0)))) (ty := .long) hx hb (hts _ harr) rfl hK hP hD hS (fun q hq => Nat.le_trans hB hq) (fun _ => rfl) (by rw [hj]; exact nI_pos (by omega)) hcl (by simp only [componentBytes]; omega) hcells hslots hdg (fun q cB H1 a0 a1 a2 a3 => ?_)
  have hlt : t0 < tys.length := (List.getElem?_eq_some_iff.mp ht).1
  have e1 : cB = cA := nh_one a0 (i := tys.length) (j := t0) (by rw [List.getElem?_append_right (Nat.le_refl _), Nat.sub_self]; rfl) (by rw [List.getElem?_append_left hlt]; exact ht)
  subst e1
  have hkk := kk q H1 ⟨(hpush q H1 a1 a2).to (nf_new_G hok hs ?_), nf_new_ok hok hs (fun q' hq' => ?_), a3, hB⟩
  · rw [nh_ad_new] at hkk
    exact hkk
  · show Sum.inl (cB, N', Sum.inr (Sum.inl (nf_jz J k i k i))) = _
    rw [show nf_jz J k i k i = fun _ => 0 from funext fun c => by simp [nf_jz]]
  · obtain ⟨y, hy⟩ := hq'
    simp [nf_pz] at hy
theorem nf_newq (hC : nf_C p m c cc nL s args Ts own D cl tys) (hclink : Cond.classLink own index C ∈ Ts) (hover : va_AO C s) (hM : nf_M D cl Bs sh ad I J P H0 H locs) (t0 : Nat) (ht : tys[t0]? = some (cA, .object C)) (k i : Nat) (hs : sh k i = none) {j : Int32} (N' : Nat) (hj : j = nI N') (hN : N' < 100000) (hcells : cells + 1 ≤ R.cells) (hslots : slots + N' ≤ R.slots) (hdg : decode cc pc = .ok (.anewarray index, 3))
    (kk : ∀ (q : Nat) (H1 : Heap), nf_M D cl Bs (nf_su sh k i (.inr (cA, N', 2))) (nh_ad ad k i q) (nf_iz I k i) (nf_jz J k i) (nf_pz P k i) H0 H1 locs → W p l e R s m args below meth c H1 locs (cells + 1) (slots + N') Q (F0 m (pc + 3) ls (.ref (nh_ad ad k i q k i) :: rest))) : W p l e R s m args below meth c H locs cells slots Q (F0 m pc ls (.int j :: rest)) := by
  obtain ⟨⟨hx, hb, hml, hown, hts⟩, hK⟩ := hC
  obtain ⟨hM, hok, hS, hB⟩ := hM
  have hcl : j.toNatClampNeg = N' := by rw [hj]; exact nI_clamp (by omega)
  obtain ⟨ws, hP, hD, hpush⟩ := nh_push (k := k) (i := i) (x := .inl (cA, N', .inr (.inr (.inr (.inr (fun _ => none)))))) hM (by unfold nf_G; rw [hs]; rfl) (fun _ _ => rfl)
  refine va_newq (N' := N') hx hb hown (hts _ hclink) hover hK hP hD hS (fun q hq => Nat.le_trans hB hq) (by rw [hj]; exact nI_pos (by omega)) hcl (by omega) hcells hslots hdg (fun q cB H1 a0 a1 a2 a3 => ?_)
  have hlt : t0 < tys.length := (List.getElem?_eq_some_iff.mp ht).1
  have e1 : cB = cA := nh_one a0 (i := tys.length) (j := t0) (by rw [List.getElem?_append_right (Nat.le_refl _), Nat.sub_self]; rfl) (by rw [List.getElem?_append_left hlt]; exact ht)
  subst e1
  have hkk := kk q H1 ⟨(hpush q H1 a1 a2).to (nf_new_G hok hs ?_), nf_new_ok hok hs (fun q' hq' => ?_), a3, hB⟩
  · rw [nh_ad_new] at hkk
    exact hkk
  · show Sum.inl (cB, N', Sum.inr (Sum.inr (Sum.inr (Sum.inr (nf_rf (nh_ad ad k i q) (nf_pz P k i) k i))))) = _
    rw [show nf_rf (nh_ad ad k i q) (nf_pz P k i) k i = fun _ => none from funext fun c => by simp [nf_rf, nf_pz]]
  · obtain ⟨y, hy⟩ := hq'
    simp [nf_pz] at hy
/-! a reference field gets its cell, in a constructor -/
theorem nf_set_r {k2 : Nat} (hg : sh k i = some (.inl (ci, fs))) (hlt : n < fs.length) : ∀ a b : Nat, nf_G (nf_su sh k i (.inl (ci, fs.set n (2, k2)))) ad I J P a b = if a = k ∧ b = i then some (.inr (ci, (nf_fs ad I J k i 0 fs).set n (.ref (ad k2 i)))) else nf_G sh ad I J P a b := by
  intro a b
  by_cases hab : a = k ∧ b = i
  · obtain ⟨rfl, rfl⟩ := hab
    rw [if_pos ⟨rfl, rfl⟩, nf_G_at (nf_su_s _ _ _ _)]
    show some (Sum.inr (ci, nf_fs ad I J a b 0 (fs.set n (2, k2)))) = _
    congr 3
    apply List.ext_getElem?
    intro q
    rw [nf_fs_get, List.getElem?_set, List.getElem?_set, nf_fs_len]
    by_cases hq : n = q
    · subst hq
      simp [hlt, nf_v]
    · rw [if_neg hq, if_neg hq, nf_fs_get]
  · rw [if_neg hab]
    unfold nf_G
    rw [nf_su_n _ _ hab]
theorem nf_ok_r {k2 : Nat} {x : nf_O} (hok : nf_ok sh P) (hg : sh k i = some (.inl (ci, fs))) (hv : sh k2 i = some x) : nf_ok (nf_su sh k i (.inl (ci, fs.set n (2, k2)))) P := by
  intro a b s hsa q hq
  have up : ∀ (q : Nat × Nat) (s' : nf_O), sh q.1 q.2 = some s' → ∃ s'', nf_su sh k i (.inl (ci, fs.set n (2, k2))) q.1 q.2 = some s'' := by
    intro q s' h
    by_cases hh : q.1 = k ∧ q.2 = i
    · exact ⟨_, by unfold nf_su; rw [if_pos hh]⟩
    · exact ⟨s', by rw [nf_su_n _ _ hh]; exact h⟩
  by_cases hab : a = k ∧ b = i
  · obtain ⟨rfl, rfl⟩ := hab
    rw [nf_su_s] at hsa
    cases hsa
    obtain ⟨f, h1, h2, h3⟩ := hq
    rcases List.mem_or_eq_of_mem_set h1 with h | h
    · obtain ⟨s', hs'⟩ := hok a b _ hg q ⟨f, h, h2, h3⟩
      exact up q s' hs'
    · subst h
      subst h3
      exact up _ x hv
  · rw [nf_su_n _ _ hab] at hsa
    obtain ⟨s', hs'⟩ := hok a b s hsa q hq
    exact up q s' hs'
theorem nf_putrF (hC : nf_C p m c cc nL s args Ts own D cl tys) (hin : ∀ w ∈ u_ws C T N, w ∈ Ts) (ty0 : Nat → FieldType) (hty : ∀ k, k < N → parseFieldDescriptor (T k).2.2.1 = some (ty0 k)) (hnm : ∀ a, a < N → ∀ b, b < N → a ≠ b → (T a).2.1 ≠ (T b).2.1) (hM : nf_M D cl Bs sh ad I J P H0 H locs) (hg : sh k i = some (.inl (ci, fs))) (hc : cl[ci]? = some (C, T, N)) (n : Nat) (hn : n < N) (hlink : Cond.fieldLink own index (T n).1 (T n).2.1 (T n).2.2.1 ∈ Ts) (hfin : (T n).2.2.2 = true) (hin2 : meth.name = "<init>") (hdecl : (T n).1 = own) {ty : FieldType} (hd : parseFieldDescriptor (T n).2.2.1 = some ty) {k2 : Nat} (hnw : narrow ty (.ref (ad k2 i)) = .ref (ad k2 i)) (hfit : fits ty (.ref (ad k2 i)) = true) (hf : n < fs.length) {x : nf_O} (hv : sh k2 i = some x) (hdg : decode cc pc = .ok (.putfield index, 3))
    (kk : ∀ (H1 : Heap) (locs1 : List Loc), nf_M D cl Bs (nf_su sh k i (.inl (ci, fs.set n (2, k2)))) ad I J P H0 H1 locs1 → W p l e R s m args below meth c H1 locs1 cells slots Q (F0 m (pc + 3) ls rest)) : W p l e R s m args below meth c H locs cells slots Q (F0 m pc ls (.ref (ad k2 i) :: .ref (ad k i) :: rest)) := by
  obtain ⟨⟨hx, hb, hml, hown, hts⟩, hK⟩ := hC
  obtain ⟨hM, hok, hS, hB⟩ := hM
  obtain ⟨ws, q0, hP, hD, hq, -, hset⟩ := nh_set hM (nf_G_at hg) (nf_set_r (ad := ad) (I := I) (J := J) (P := P) (k2 := k2) hg hf)
  exact va_putF hx hb hts hin ty0 hty hnm hown hK hP hD hS q0 hq hc n hn (hts _ hlink) (fun _ h => h) hfin hin2 hdecl hd hnw hfit (by rw [nf_fs_len]; exact hf) hdg (fun H1 locs1 a1 a2 a3 => kk H1 locs1 ⟨hset H1 a1 a2, nf_ok_r hok hg hv, a3, hB⟩)
theorem nf_putr (hC : nf_C p m c cc nL s args Ts own D cl tys) (hin : ∀ w ∈ u_ws C T N, w ∈ Ts) (ty0 : Nat → FieldType) (hty : ∀ k, k < N → parseFieldDescriptor (T k).2.2.1 = some (ty0 k)) (hnm : ∀ a, a < N → ∀ b, b < N → a ≠ b → (T a).2.1 ≠ (T b).2.1) (hM : nf_M D cl Bs sh ad I J P H0 H locs) (hg : sh k i = some (.inl (ci, fs))) (hc : cl[ci]? = some (C, T, N)) (n : Nat) (hn : n < N) (hlink : Cond.fieldLink own index (T n).1 (T n).2.1 (T n).2.2.1 ∈ Ts) (hfin : (T n).2.2.2 = false) {ty : FieldType} (hd : parseFieldDescriptor (T n).2.2.1 = some ty) {k2 : Nat} (hnw : narrow ty (.ref (ad k2 i)) = .ref (ad k2 i)) (hfit : fits ty (.ref (ad k2 i)) = true) (hf : n < fs.length) {x : nf_O} (hv : sh k2 i = some x) (hdg : decode cc pc = .ok (.putfield index, 3))
    (kk : ∀ (H1 : Heap) (locs1 : List Loc), nf_M D cl Bs (nf_su sh k i (.inl (ci, fs.set n (2, k2)))) ad I J P H0 H1 locs1 → W p l e R s m args below meth c H1 locs1 cells slots Q (F0 m (pc + 3) ls rest)) : W p l e R s m args below meth c H locs cells slots Q (F0 m pc ls (.ref (ad k2 i) :: .ref (ad k i) :: rest)) := by
  obtain ⟨⟨hx, hb, hml, hown, hts⟩, hK⟩ := hC
  obtain ⟨hM, hok, hS, hB⟩ := hM
  obtain ⟨ws, q0, hP, hD, hq, -, hset⟩ := nh_set hM (nf_G_at hg) (nf_set_r (ad := ad) (I := I) (J := J) (P := P) (k2 := k2) hg hf)
  exact va_put hx hb hts hin ty0 hty hnm hown hK hP hD hS q0 hq hc n hn (hts _ hlink) (fun _ h => h) hfin hd hnw hfit (by rw [nf_fs_len]; exact hf) hdg (fun H1 locs1 a1 a2 a3 => kk H1 locs1 ⟨hset H1 a1 a2, nf_ok_r hok hg hv, a3, hB⟩)
theorem nf_putiF (hC : nf_C p m c cc nL s args Ts own D cl tys) (hin : ∀ w ∈ u_ws C T N, w ∈ Ts) (ty0 : Nat → FieldType) (hty : ∀ k, k < N → parseFieldDescriptor (T k).2.2.1 = some (ty0 k)) (hnm : ∀ a, a < N → ∀ b, b < N → a ≠ b → (T a).2.1 ≠ (T b).2.1) (hM : nf_M D cl Bs sh ad I J P H0 H locs) (hg : sh k i = some (.inl (ci, fs))) (hc : cl[ci]? = some (C, T, N)) (n : Nat) (hn : n < N) (hlink : Cond.fieldLink own index (T n).1 (T n).2.1 (T n).2.2.1 ∈ Ts) (hfin : (T n).2.2.2 = true) (hin2 : meth.name = "<init>") (hdecl : (T n).1 = own) (hd : parseFieldDescriptor (T n).2.2.1 = some .int) (hf : fs[n]? = some (0, z)) {v : Int32} (hdg : decode cc pc = .ok (.putfield index, 3))
    (kk : ∀ (H1 : Heap) (locs1 : List Loc), nf_M D cl Bs sh ad (nf_iu I k i n v) J P H0 H1 locs1 → W p l e R s m args below meth c H1 locs1 cells slots Q (F0 m (pc + 3) ls rest)) : W p l e R s m args below meth c H locs cells slots Q (F0 m pc ls (.int v :: .ref (ad k i) :: rest)) := by
  obtain ⟨⟨hx, hb, hml, hown, hts⟩, hK⟩ := hC
  obtain ⟨hM, hok, hS, hB⟩ := hM
  obtain ⟨ws, q0, hP, hD, hq, -, hset⟩ := nh_set hM (nf_G_at hg) (nf_set_i (ad := ad) (I := I) (J := J) (P := P) (v := v) hg hf)
  exact va_putF hx hb hts hin ty0 hty hnm hown hK hP hD hS q0 hq hc n hn (hts _ hlink) (fun _ h => h) hfin hin2 hdecl hd rfl rfl (by rw [nf_fs_len]; exact (List.getElem?_eq_some_iff.mp hf).1) hdg (fun H1 locs1 a1 a2 a3 => kk H1 locs1 ⟨hset H1 a1 a2, hok, a3, hB⟩)
end NRows
end
section
/-! A method's start, its end, and a call, over the memory by fields. -/
def nb_I (b : Bool) : Int32 := if b then 1 else 0
theorem nb_0 {b : Bool} (h : nb_I b = 0) : b = false := by cases b with
  | false => rfl
  | true => exact absurd h (by decide +kernel)
theorem nb_1 {b : Bool} (h : ¬ nb_I b = 0) : b = true := by cases b with
  | false => exact absurd rfl h
  | true => rfl
theorem nb_n (b : Bool) : narrow .boolean (.int (nb_I b)) = .int (nb_I b) := by cases b <;> decide +kernel
def nf_U (D : va_G) (cl : List vw_C) (tys : List (ClassId × FieldType)) (Bs : Nat) (sh : nf_H) (ad : nf_A) (u : nf_I × nf_J × nf_P) (U : State) : Prop := va_K D cl tys U ∧ nf_M D cl Bs sh ad u.1 u.2.1 u.2.2 U.heap U.heap []
def nf_X (D : va_G) (cl : List vw_C) (tys : List (ClassId × FieldType)) (Bs : Nat) (w : nf_H × nf_A × nf_I × nf_J × nf_P) (U : State) : Prop := nf_U D cl tys Bs w.1 w.2.1 w.2.2 U
abbrev nf_Rm (fr lo : Nat) : Room := { frames := fr, cells := 0, slots := 0, locals := lo }
abbrev nf_Ti (l : Launch) (y : MethodName) (ws : List Cond) (fr lo : Nat) (D : va_G) (cl : List vw_C) (tys : List (ClassId × FieldType)) (Bs : Nat) (sh : nf_H) (ad : nf_A) (As : List Value) (I : nf_I) (J : nf_J) (P : nf_P) (r : Int32) (I1 : nf_I) (J1 : nf_J) (P1 : nf_P) : Prop := Met l y ws (nf_Rm fr lo) (va_Pc As (nf_U D cl tys Bs sh ad (I, J, P))) (va_Qi (fun (r' : Int32) (u : nf_I × nf_J × nf_P) => r' = r ∧ u = (I1, J1, P1)) (nf_U D cl tys Bs sh ad) (fun q => Bs ≤ q)) 0 0 (fun q => Bs ≤ q)
abbrev nf_Tl (l : Launch) (y : MethodName) (ws : List Cond) (fr lo : Nat) (D : va_G) (cl : List vw_C) (tys : List (ClassId × FieldType)) (Bs : Nat) (sh : nf_H) (ad : nf_A) (As : List Value) (I : nf_I) (J : nf_J) (P : nf_P) (r : Int64) (I1 : nf_I) (J1 : nf_J) (P1 : nf_P) : Prop := Met l y ws (nf_Rm fr lo) (va_Pc As (nf_U D cl tys Bs sh ad (I, J, P))) (va_Ql (fun (r' : Int64) (u : nf_I × nf_J × nf_P) => r' = r ∧ u = (I1, J1, P1)) (nf_U D cl tys Bs sh ad) (fun q => Bs ≤ q)) 0 0 (fun q => Bs ≤ q)
abbrev nf_Tv (l : Launch) (y : MethodName) (ws : List Cond) (fr lo : Nat) (D : va_G) (cl : List vw_C) (tys : List (ClassId × FieldType)) (Bs : Nat) (sh : nf_H) (ad : nf_A) (As : List Value) (I : nf_I) (J : nf_J) (P : nf_P) (I1 : nf_I) (J1 : nf_J) (P1 : nf_P) : Prop := Met l y ws (nf_Rm fr lo) (va_Pc As (nf_U D cl tys Bs sh ad (I, J, P))) (va_Qv (fun (u : nf_I × nf_J × nf_P) => u = (I1, J1, P1)) (nf_U D cl tys Bs sh ad) (fun q => Bs ≤ q)) 0 0 (fun q => Bs ≤ q)
abbrev nf_Tq (l : Launch) (y : MethodName) (ws : List Cond) (fr lo : Nat) (D : va_G) (cl : List vw_C) (tys : List (ClassId × FieldType)) (Bs : Nat) (sh : nf_H) (ad : nf_A) (As : List Value) (I : nf_I) (J : nf_J) (P : nf_P) (r : Option Nat) (I1 : nf_I) (J1 : nf_J) (P1 : nf_P) : Prop := Met l y ws (nf_Rm fr lo) (va_Pc As (nf_U D cl tys Bs sh ad (I, J, P))) (va_Qq (fun (r' : Option Nat) (u : nf_I × nf_J × nf_P) => r' = r ∧ u = (I1, J1, P1)) (nf_U D cl tys Bs sh ad) (fun q => Bs ≤ q)) 0 0 (fun q => Bs ≤ q)
section NCalls
variable {p : Program} {l : Launch} {e : Env} {R : Room} {s : State} {m : MethodId} {args : Array Value} {below : List Frame} {meth : Method} {c : Code} {H : Heap} {locs : List Loc} {cells slots : Nat} {Q : State → Prop}
variable {cc : ByteArray} {pc : Nat} {ls : Array Slot} {rest st0 : List Value} {D : va_G} {cl : List vw_C} {tys : List (ClassId × FieldType)} {H0 : Heap} {ad : nf_A} {sh : nf_H} {I I1 : nf_I} {J J1 : nf_J} {P P1 : nf_P} {k i : Nat}
variable {nL Bs N ci : Nat} {Ts : List Cond} {own C : String} {T : u_T} {fs : List nf_F} {a : Array Value}
theorem nf_M.here (h : nf_M D cl Bs sh ad I J P H0 H locs) : nf_M D cl Bs sh ad I J P H H [] := ⟨h.1, h.2.1, va_S.rf, Nat.le_trans h.2.2.2 h.2.2.1.1⟩
theorem nf_preS (hC : nf_C p m c cc nL s args Ts own D cl tys) (hM : nf_M D cl Bs sh ad I J P H0 H locs) {As : List Value} : PreS s H (va_Pc As (nf_U D cl tys Bs sh ad (I, J, P))) As :=
  ⟨fun a U g mk q => ⟨q.1, va_K.moved (u := U) (U := U.calling g mk a) (Vm.Alike.refl U.vm) q.2.1, q.2.2⟩, fun U hU hW => ⟨rfl, va_K.moved hW.alike hC.2, by rw [hU]; exact hM.here⟩⟩
theorem nf_preV (hC : nf_C p m c cc nL s args Ts own D cl tys) (hM : nf_M D cl Bs sh ad I J P H0 H locs) {As : List Value} (hg : sh k i = some (.inl (ci, fs))) (hc : cl[ci]? = some (C, T, N)) : PreV s H C (ad k i) (va_Pc (.ref (ad k i) :: As) (nf_U D cl tys Bs sh ad (I, J, P))) As := by
  obtain ⟨ws, q0, hP, hq⟩ := nh_at hM.1 (nf_G_at hg)
  exact ⟨(nf_preS hC hM).1, va_recv hC.2 hP hc hq, (nf_preS (As := .ref (ad k i) :: As) hC hM).2⟩
theorem nf_enter {y : MethodName} {ws ws' : List Cond} {rm : Room} {As : List Value} {B : State → Prop} {Qc : Array Value → State → Outcome → State → Prop} {mc ms : Nat} {free : Addr → Prop} {cc : ByteArray} {maxL : Nat} {ret : Option FieldType} (hy : plainName y.cls = true) (hw : ws = Cond.code y cc maxL ret :: ws') (hlen : (lg_sl As).length ≤ maxL)
    (body : ∀ (p : Program) (e : Env) (s : State) (m : MethodId) (below : List Frame) (meth : Method) (c : Code) (ls : Array Slot), CallFix p m c cc maxL s As.toArray ws y.cls → meth.sig.returnType = ret → meth.locks = false → meth.name = y.name → B s → lv_has ls maxL (lv_args 0 As) → W p l e rm s m As.toArray below meth c s.heap [] 0 0 (MQ below Qc As.toArray s mc ms free) (F0 m 0 ls [])) : Met l y ws rm (va_Pc As B) Qc mc ms free := by
  refine Met.ofW (cc := cc) (maxL := maxL) (ret := ret) hy hw ?_
  intro p e s m args below meth c s₁ B' hml hv
  obtain ⟨rfl, hB⟩ := hv
  rw [lg_entry_eq]
  exact body p e s m below meth c _ ⟨B'.exec, B'.bytes, hml, findClass_of_methodNamed B'.named, atoms_spec (ws := ws) B'.pre⟩ B'.returns B'.notSynchronized (name_of_methodNamed B'.named B'.method).1 hB (lv_entry As hlen)
/-! ends -/
theorem nf_end (hC : nf_C p m c cc nL s args Ts own D cl tys) (hM : nf_M D cl Bs sh ad I J P s.heap H locs) {t : State} (ht : t.heap = H) (hW : s.WarmedH t.vm) : nf_U D cl tys Bs sh ad (I, J, P) t := ⟨va_K.moved hW.alike hC.2, by rw [ht]; exact hM.here⟩
theorem nf_reti (hC : nf_C p m c cc nL s args Ts own D cl tys) (hr : meth.sig.returnType = some .int) (hlk : meth.locks = false) (hM : nf_M D cl Bs sh ad I J P s.heap H locs) {v r : Int32} (hv : v = r) (hI : I = I1) (hJ : J = J1) (hP : P = P1) (hdg : decode cc pc = .ok (.ireturn, 1)) : W p l e R s m args below meth c H locs cells slots (MQ below (va_Qi (fun (r' : Int32) (u : nf_I × nf_J × nf_P) => r' = r ∧ u = (I1, J1, P1)) (nf_U D cl tys Bs sh ad) (fun q => Bs ≤ q)) args s cells slots (fun q => Bs ≤ q)) (F0 m pc ls [.int v]) := by
  subst hv hI hJ hP
  exact W.iret hC.1.1 hC.1.2.1 hr (fun t ht hW => ⟨⟨v, (I, J, P), rfl, ⟨rfl, rfl⟩, nf_end hC hM ht hW⟩, hM.2.2.1.F ht⟩) hM.2.2.1.2.2 hdg hlk
theorem nf_retz (hC : nf_C p m c cc nL s args Ts own D cl tys) (hr : meth.sig.returnType = some .boolean) (hlk : meth.locks = false) (hM : nf_M D cl Bs sh ad I J P s.heap H locs) {v : Int32} {b : Bool} (hv : v = nb_I b) (hI : I = I1) (hJ : J = J1) (hP : P = P1) (hdg : decode cc pc = .ok (.ireturn, 1)) : W p l e R s m args below meth c H locs cells slots (MQ below (va_Qi (fun (r' : Int32) (u : nf_I × nf_J × nf_P) => r' = nb_I b ∧ u = (I1, J1, P1)) (nf_U D cl tys Bs sh ad) (fun q => Bs ≤ q)) args s cells slots (fun q => Bs ≤ q)) (F0 m pc ls [.int v]) := by
  subst hv hI hJ hP
  exact W.zret hC.1.1 hC.1.2.1 hr (nb_n b) (fun t ht hW => ⟨⟨nb_I b, (I, J, P), rfl, ⟨rfl, rfl⟩, nf_end hC hM ht hW⟩, hM.2.2.1.F ht⟩) hM.2.2.1.2.2 hdg hlk
theorem nf_retl (hC : nf_C p m c cc nL s args Ts own D cl tys) (hr : meth.sig.returnType = some .long) (hlk : meth.locks = false) (hM : nf_M D cl Bs sh ad I J P s.heap H locs) {v r : Int64} (hv : v = r) (hI : I = I1) (hJ : J = J1) (hP : P = P1) (hdg : decode cc pc = .ok (.lreturn, 1)) : W p l e R s m args below meth c H locs cells slots (MQ below (va_Ql (fun (r' : Int64) (u : nf_I × nf_J × nf_P) => r' = r ∧ u = (I1, J1, P1)) (nf_U D cl tys Bs sh ad) (fun q => Bs ≤ q)) args s cells slots (fun q => Bs ≤ q)) (F0 m pc ls [.long v]) := by
  subst hv hI hJ hP
  exact W.lret hC.1.1 hC.1.2.1 hr (fun t ht hW => ⟨⟨v, (I, J, P), rfl, ⟨rfl, rfl⟩, nf_end hC hM ht hW⟩, hM.2.2.1.F ht⟩) hM.2.2.1.2.2 hdg hlk
theorem nf_retv (hC : nf_C p m c cc nL s args Ts own D cl tys) (hr : meth.sig.returnType = none) (hlk : meth.locks = false) (hM : nf_M D cl Bs sh ad I J P s.heap H locs) (hI : I = I1) (hJ : J = J1) (hP : P = P1) (hdg : decode cc pc = .ok (.return_, 1)) : W p l e R s m args below meth c H locs cells slots (MQ below (va_Qv (fun (u : nf_I × nf_J × nf_P) => u = (I1, J1, P1)) (nf_U D cl tys Bs sh ad) (fun q => Bs ≤ q)) args s cells slots (fun q => Bs ≤ q)) (F0 m pc ls []) := by
  subst hI hJ hP
  exact W.vret hC.1.1 hC.1.2.1 hr (fun t ht hW => ⟨⟨(I, J, P), rfl, rfl, nf_end hC hM ht hW⟩, hM.2.2.1.F ht⟩) hM.2.2.1.2.2 hdg hlk
theorem nf_retq (hC : nf_C p m c cc nL s args Ts own D cl tys) {rt : String} (hr : meth.sig.returnType = some (.object rt)) (hlk : meth.locks = false) (hM : nf_M D cl Bs sh ad I J P s.heap H locs) {v : Value} {r : Option Nat} (hv : v = va_rf r) (hI : I = I1) (hJ : J = J1) (hP : P = P1) (hdg : decode cc pc = .ok (.areturn, 1)) : W p l e R s m args below meth c H locs cells slots (MQ below (va_Qq (fun (r' : Option Nat) (u : nf_I × nf_J × nf_P) => r' = r ∧ u = (I1, J1, P1)) (nf_U D cl tys Bs sh ad) (fun q => Bs ≤ q)) args s cells slots (fun q => Bs ≤ q)) (F0 m pc ls [v]) := by
  subst hv hI hJ hP
  exact W.aret hC.1.1 hC.1.2.1 hr (Or.inl ⟨rt, rfl⟩) (by cases r with
    | none => exact Or.inl rfl
    | some a => exact Or.inr ⟨a, rfl⟩) (fun t ht hW => ⟨⟨r, (I, J, P), rfl, ⟨rfl, rfl⟩, nf_end hC hM ht hW⟩, hM.2.2.1.F ht⟩) hM.2.2.1.2.2 hdg hlk
/-! a method's walk: its end is given as a row -/
theorem nf_enteri {y : MethodName} {ws ws' : List Cond} {fr lo : Nat} {As : List Value} {cc : ByteArray} {maxL : Nat} {r : Int32} (hy : plainName y.cls = true) (hw : ws = Cond.code y cc maxL (some .int) :: ws') (hlen : (lg_sl As).length ≤ maxL)
    (body : ∀ (p : Program) (e : Env) (s : State) (m : MethodId) (below : List Frame) (meth : Method) (c : Code) (ls : Array Slot) (Q : State → Prop), nf_C p m c cc maxL s As.toArray ws y.cls D cl tys → nf_M D cl Bs sh ad I J P s.heap s.heap [] → lv_has ls maxL (lv_args 0 As) →
      (∀ (H : Heap) (locs : List Loc) (ls : Array Slot) (pc : Nat) (v : Int32) (I' : nf_I) (J' : nf_J) (P' : nf_P), v = r → I' = I1 → J' = J1 → P' = P1 → nf_M D cl Bs sh ad I' J' P' s.heap H locs → decode cc pc = .ok (.ireturn, 1) → W p l e (nf_Rm fr lo) s m As.toArray below meth c H locs 0 0 Q (F0 m pc ls [.int v])) →
      W p l e (nf_Rm fr lo) s m As.toArray below meth c s.heap [] 0 0 Q (F0 m 0 ls [])) : nf_Ti l y ws fr lo D cl tys Bs sh ad As I J P r I1 J1 P1 := by
  refine nf_enter hy hw hlen ?_
  intro p e s m below meth c ls hF hr hlk hnm hU hl
  obtain ⟨hK, hM⟩ := hU
  refine body p e s m below meth c ls _ ⟨hF, hK⟩ hM hl ?_
  intro H locs ls pc v I' J' P' h1 h2 h3 h4 hM' hd
  exact nf_reti ⟨hF, hK⟩ hr hlk hM' h1 h2 h3 h4 hd
theorem nf_enterz {y : MethodName} {ws ws' : List Cond} {fr lo : Nat} {As : List Value} {cc : ByteArray} {maxL : Nat} {b : Bool} (hy : plainName y.cls = true) (hw : ws = Cond.code y cc maxL (some .boolean) :: ws') (hlen : (lg_sl As).length ≤ maxL)
    (body : ∀ (p : Program) (e : Env) (s : State) (m : MethodId) (below : List Frame) (meth : Method) (c : Code) (ls : Array Slot) (Q : State → Prop), nf_C p m c cc maxL s As.toArray ws y.cls D cl tys → nf_M D cl Bs sh ad I J P s.heap s.heap [] → lv_has ls maxL (lv_args 0 As) →
      (∀ (H : Heap) (locs : List Loc) (ls : Array Slot) (pc : Nat) (v : Int32) (I' : nf_I) (J' : nf_J) (P' : nf_P), v = nb_I b → I' = I1 → J' = J1 → P' = P1 → nf_M D cl Bs sh ad I' J' P' s.heap H locs → decode cc pc = .ok (.ireturn, 1) → W p l e (nf_Rm fr lo) s m As.toArray below meth c H locs 0 0 Q (F0 m pc ls [.int v])) →
      W p l e (nf_Rm fr lo) s m As.toArray below meth c s.heap [] 0 0 Q (F0 m 0 ls [])) : nf_Ti l y ws fr lo D cl tys Bs sh ad As I J P (nb_I b) I1 J1 P1 := by
  refine nf_enter hy hw hlen ?_
  intro p e s m below meth c ls hF hr hlk hnm hU hl
  obtain ⟨hK, hM⟩ := hU
  refine body p e s m below meth c ls _ ⟨hF, hK⟩ hM hl ?_
  intro H locs ls pc v I' J' P' h1 h2 h3 h4 hM' hd
  exact nf_retz ⟨hF, hK⟩ hr hlk hM' h1 h2 h3 h4 hd
theorem nf_enterl {y : MethodName} {ws ws' : List Cond} {fr lo : Nat} {As : List Value} {cc : ByteArray} {maxL : Nat} {r : Int64} (hy : plainName y.cls = true) (hw : ws = Cond.code y cc maxL (some .long) :: ws') (hlen : (lg_sl As).length ≤ maxL)
    (body : ∀ (p : Program) (e : Env) (s : State) (m : MethodId) (below : List Frame) (meth : Method) (c : Code) (ls : Array Slot) (Q : State → Prop), nf_C p m c cc maxL s As.toArray ws y.cls D cl tys → nf_M D cl Bs sh ad I J P s.heap s.heap [] → lv_has ls maxL (lv_args 0 As) →
      (∀ (H : Heap) (locs : List Loc) (ls : Array Slot) (pc : Nat) (v : Int64) (I' : nf_I) (J' : nf_J) (P' : nf_P), v = r → I' = I1 → J' = J1 → P' = P1 → nf_M D cl Bs sh ad I' J' P' s.heap H locs → decode cc pc = .ok (.lreturn, 1) → W p l e (nf_Rm fr lo) s m As.toArray below meth c H locs 0 0 Q (F0 m pc ls [.long v])) →
      W p l e (nf_Rm fr lo) s m As.toArray below meth c s.heap [] 0 0 Q (F0 m 0 ls [])) : nf_Tl l y ws fr lo D cl tys Bs sh ad As I J P r I1 J1 P1 := by
  refine nf_enter hy hw hlen ?_
  intro p e s m below meth c ls hF hr hlk hnm hU hl
  obtain ⟨hK, hM⟩ := hU
  refine body p e s m below meth c ls _ ⟨hF, hK⟩ hM hl ?_
  intro H locs ls pc v I' J' P' h1 h2 h3 h4 hM' hd
  exact nf_retl ⟨hF, hK⟩ hr hlk hM' h1 h2 h3 h4 hd
theorem nf_enterv {y : MethodName} {ws ws' : List Cond} {fr lo : Nat} {As : List Value} {cc : ByteArray} {maxL : Nat} (hy : plainName y.cls = true) (hw : ws = Cond.code y cc maxL none :: ws') (hlen : (lg_sl As).length ≤ maxL)
    (body : ∀ (p : Program) (e : Env) (s : State) (m : MethodId) (below : List Frame) (meth : Method) (c : Code) (ls : Array Slot) (Q : State → Prop), nf_C p m c cc maxL s As.toArray ws y.cls D cl tys → nf_M D cl Bs sh ad I J P s.heap s.heap [] → lv_has ls maxL (lv_args 0 As) →
      (∀ (H : Heap) (locs : List Loc) (ls : Array Slot) (pc : Nat) (I' : nf_I) (J' : nf_J) (P' : nf_P), I' = I1 → J' = J1 → P' = P1 → nf_M D cl Bs sh ad I' J' P' s.heap H locs → decode cc pc = .ok (.return_, 1) → W p l e (nf_Rm fr lo) s m As.toArray below meth c H locs 0 0 Q (F0 m pc ls [])) →
      W p l e (nf_Rm fr lo) s m As.toArray below meth c s.heap [] 0 0 Q (F0 m 0 ls [])) : nf_Tv l y ws fr lo D cl tys Bs sh ad As I J P I1 J1 P1 := by
  refine nf_enter hy hw hlen ?_
  intro p e s m below meth c ls hF hr hlk hnm hU hl
  obtain ⟨hK, hM⟩ := hU
  refine body p e s m below meth c ls _ ⟨hF, hK⟩ hM hl ?_
  intro H locs ls pc I' J' P' h2 h3 h4 hM' hd
  exact nf_retv ⟨hF, hK⟩ hr hlk hM' h2 h3 h4 hd
theorem nf_enterq {y : MethodName} {ws ws' : List Cond} {fr lo : Nat} {As : List Value} {cc : ByteArray} {maxL : Nat} {r : Option Nat} {rt : String} (hy : plainName y.cls = true) (hw : ws = Cond.code y cc maxL (some (.object rt)) :: ws') (hlen : (lg_sl As).length ≤ maxL)
    (body : ∀ (p : Program) (e : Env) (s : State) (m : MethodId) (below : List Frame) (meth : Method) (c : Code) (ls : Array Slot) (Q : State → Prop), nf_C p m c cc maxL s As.toArray ws y.cls D cl tys → nf_M D cl Bs sh ad I J P s.heap s.heap [] → lv_has ls maxL (lv_args 0 As) →
      (∀ (H : Heap) (locs : List Loc) (ls : Array Slot) (pc : Nat) (v : Value) (I' : nf_I) (J' : nf_J) (P' : nf_P), v = va_rf r → I' = I1 → J' = J1 → P' = P1 → nf_M D cl Bs sh ad I' J' P' s.heap H locs → decode cc pc = .ok (.areturn, 1) → W p l e (nf_Rm fr lo) s m As.toArray below meth c H locs 0 0 Q (F0 m pc ls [v])) →
      W p l e (nf_Rm fr lo) s m As.toArray below meth c s.heap [] 0 0 Q (F0 m 0 ls [])) : nf_Tq l y ws fr lo D cl tys Bs sh ad As I J P r I1 J1 P1 := by
  refine nf_enter hy hw hlen ?_
  intro p e s m below meth c ls hF hr hlk hnm hU hl
  obtain ⟨hK, hM⟩ := hU
  refine body p e s m below meth c ls _ ⟨hF, hK⟩ hM hl ?_
  intro H locs ls pc v I' J' P' h1 h2 h3 h4 hM' hd
  exact nf_retq ⟨hF, hK⟩ hr hlk hM' h1 h2 h3 h4 hd
/-! behind a call -/
theorem nf_calli {r : Int32} (hr : va_Run p l e R s m args below meth c H locs cells slots 0 0 (F0 m pc ls st0) rest (va_Qi (fun (r' : Int32) (u : nf_I × nf_J × nf_P) => r' = r ∧ u = (I1, J1, P1)) (nf_U D cl tys Bs sh ad) (fun q => Bs ≤ q) a) (fun q => Bs ≤ q)) (hM : nf_M D cl Bs sh ad I J P H0 H locs)
    (kk : ∀ (H1 : Heap) (locs1 : List Loc), nf_M D cl Bs sh ad I1 J1 P1 H0 H1 locs1 → W p l e R s m args below meth c H1 locs1 cells slots Q (F0 m (pc + 3) ls (.int r :: rest))) : W p l e R s m args below meth c H locs cells slots Q (F0 m pc ls st0) := by
  obtain ⟨h1, h2, hS, hB⟩ := hM
  refine va_calli hr hS (fun q _ h => h) (fun q h => h) (fun r' u t H1 locs1 ht hvm hw hBu hz hk hS1 => ?_)
  obtain ⟨rfl, rfl⟩ := hw
  obtain ⟨-, hN⟩ := hBu
  rw [ht] at hN
  exact kk H1 locs1 ⟨hN.1, hN.2.1, hS1, hB⟩
theorem nf_calll {r : Int64} (hr : va_Run p l e R s m args below meth c H locs cells slots 0 0 (F0 m pc ls st0) rest (va_Ql (fun (r' : Int64) (u : nf_I × nf_J × nf_P) => r' = r ∧ u = (I1, J1, P1)) (nf_U D cl tys Bs sh ad) (fun q => Bs ≤ q) a) (fun q => Bs ≤ q)) (hM : nf_M D cl Bs sh ad I J P H0 H locs)
    (kk : ∀ (H1 : Heap) (locs1 : List Loc), nf_M D cl Bs sh ad I1 J1 P1 H0 H1 locs1 → W p l e R s m args below meth c H1 locs1 cells slots Q (F0 m (pc + 3) ls (.long r :: rest))) : W p l e R s m args below meth c H locs cells slots Q (F0 m pc ls st0) := by
  obtain ⟨h1, h2, hS, hB⟩ := hM
  refine va_calll hr hS (fun q _ h => h) (fun q h => h) (fun r' u t H1 locs1 ht hvm hw hBu hz hk hS1 => ?_)
  obtain ⟨rfl, rfl⟩ := hw
  obtain ⟨-, hN⟩ := hBu
  rw [ht] at hN
  exact kk H1 locs1 ⟨hN.1, hN.2.1, hS1, hB⟩
theorem nf_callv (hr : va_Run p l e R s m args below meth c H locs cells slots 0 0 (F0 m pc ls st0) rest (va_Qv (fun (u : nf_I × nf_J × nf_P) => u = (I1, J1, P1)) (nf_U D cl tys Bs sh ad) (fun q => Bs ≤ q) a) (fun q => Bs ≤ q)) (hM : nf_M D cl Bs sh ad I J P H0 H locs)
    (kk : ∀ (H1 : Heap) (locs1 : List Loc), nf_M D cl Bs sh ad I1 J1 P1 H0 H1 locs1 → W p l e R s m args below meth c H1 locs1 cells slots Q (F0 m (pc + 3) ls rest)) : W p l e R s m args below meth c H locs cells slots Q (F0 m pc ls st0) := by
  obtain ⟨h1, h2, hS, hB⟩ := hM
  refine va_callv hr hS (fun q _ h => h) (fun q h => h) (fun u t H1 locs1 ht hvm hw hBu hz hk hS1 => ?_)
  subst hw
  obtain ⟨-, hN⟩ := hBu
  rw [ht] at hN
  exact kk H1 locs1 ⟨hN.1, hN.2.1, hS1, hB⟩
theorem nf_callq {r : Option Nat} (hr : va_Run p l e R s m args below meth c H locs cells slots 0 0 (F0 m pc ls st0) rest (va_Qq (fun (r' : Option Nat) (u : nf_I × nf_J × nf_P) => r' = r ∧ u = (I1, J1, P1)) (nf_U D cl tys Bs sh ad) (fun q => Bs ≤ q) a) (fun q => Bs ≤ q)) (hM : nf_M D cl Bs sh ad I J P H0 H locs)
    (kk : ∀ (H1 : Heap) (locs1 : List Loc), nf_M D cl Bs sh ad I1 J1 P1 H0 H1 locs1 → W p l e R s m args below meth c H1 locs1 cells slots Q (F0 m (pc + 3) ls (va_rf r :: rest))) : W p l e R s m args below meth c H locs cells slots Q (F0 m pc ls st0) := by
  obtain ⟨h1, h2, hS, hB⟩ := hM
  refine va_callq hr hS (fun q _ h => h) (fun q h => h) (fun r' u t H1 locs1 ht hvm hw hBu hz hk hS1 => ?_)
  obtain ⟨rfl, rfl⟩ := hw
  obtain ⟨-, hN⟩ := hBu
  rw [ht] at hN
  exact kk H1 locs1 ⟨hN.1, hN.2.1, hS1, hB⟩
end NCalls
end
section
/-! The class's memory by names, and what each of its methods answers and changes, as functions. -/
abbrev xT (cs : Nat → ClassId) : List (ClassId × FieldType) := [(cs 0, .int), (cs 1, .long), (cs 2, .object "FingerOverlay$Node"), (cs 3, .object "FingerOverlay$Message")]
/-- kinds: 0 the overlay, 1 its nodes, 2 its keys, 3 the row, 4 its messages, 5 a node, 6 its fingers, 7 its values, 8 a message; 20 the model, 21 tz 38 its arrays -/
def xS (cs : Nat → ClassId) (nn : Nat) : nf_H := fun k i => match k with
  | 0 => if i = 0 then some (.inl (3, [(2, 1), (0, 0), (2, 2), (0, 0), (2, 3)])) else none
  | 1 => if i = 0 then some (.inr (cs 2, 12, 2)) else none
  | 2 => if i = 0 then some (.inr (cs 0, 10, 0)) else none
  | 3 => if i = 0 then some (.inl (2, [(2, 4), (0, 0)])) else none
  | 4 => if i = 0 then some (.inr (cs 3, 21, 2)) else none
  | 5 => if i < nn then some (.inl (1, [(0, 0), (0, 0), (0, 0), (2, 6), (2, 7), (1, 0), (0, 0)])) else none
  | 6 => if i < nn then some (.inr (cs 0, 8, 0)) else none
  | 7 => if i < nn then some (.inr (cs 1, 10, 1)) else none
  | 8 => if i < 21 then some (.inl (0, [(0, 0), (0, 0), (0, 0), (0, 0), (0, 0), (0, 0), (0, 0), (0, 0), (1, 0)])) else none
  | 20 => if i = 0 then some (.inl (4, [(0, 0), (2, 21), (2, 22), (2, 23), (2, 24), (2, 25), (2, 26), (0, 0), (2, 27), (2, 28), (2, 29), (0, 0), (2, 30), (0, 0), (2, 31), (2, 32), (2, 33), (2, 34), (2, 35), (2, 36), (2, 37), (2, 38)])) else none
  | 21 => if i = 0 then some (.inr (cs 0, 256, 0)) else none
  | 22 => if i = 0 then some (.inr (cs 0, 256, 0)) else none
  | 23 => if i = 0 then some (.inr (cs 0, 256, 0)) else none
  | 24 => if i = 0 then some (.inr (cs 0, 2048, 0)) else none
  | 25 => if i = 0 then some (.inr (cs 1, 256, 1)) else none
  | 26 => if i = 0 then some (.inr (cs 0, 256, 0)) else none
  | 27 => if i = 0 then some (.inr (cs 0, 120, 0)) else none
  | 28 => if i = 0 then some (.inr (cs 0, 120, 0)) else none
  | 29 => if i = 0 then some (.inr (cs 0, 120, 0)) else none
  | 30 => if i = 0 then some (.inr (cs 0, 10, 0)) else none
  | 31 => if i = 0 then some (.inr (cs 0, 21, 0)) else none
  | 32 => if i = 0 then some (.inr (cs 0, 21, 0)) else none
  | 33 => if i = 0 then some (.inr (cs 0, 21, 0)) else none
  | 34 => if i = 0 then some (.inr (cs 0, 21, 0)) else none
  | 35 => if i = 0 then some (.inr (cs 0, 21, 0)) else none
  | 36 => if i = 0 then some (.inr (cs 0, 21, 0)) else none
  | 37 => if i = 0 then some (.inr (cs 0, 21, 0)) else none
  | 38 => if i = 0 then some (.inr (cs 1, 21, 1)) else none
  | _ => none
def xP (nn : Nat) (mp : Nat → Nat) : nf_P := fun k i j => if k = 1 ∧ i = 0 ∧ j < nn then some (5, j) else if k = 4 ∧ i = 0 ∧ j < 21 then some (8, mp j) else none
theorem xP_1 {nn : Nat} {mp : Nat → Nat} {j : Nat} (h : j < nn) : xP nn mp 1 0 j = some (5, j) := by simp [xP, h]
theorem xP_4 {nn : Nat} {mp : Nat → Nat} {j : Nat} (h : j < 21) : xP nn mp 4 0 j = some (8, mp j) := by simp [xP, h]
theorem xP_put {nn : Nat} {mp : Nat → Nat} {j o : Nat} (h : j < 21) : nf_pu (xP nn mp) 4 0 j (some (8, o)) = xP nn (va_up mp j o) := by
  funext a b c
  simp only [nf_pu, xP, va_up]
  by_cases h1 : a = 4 ∧ b = 0 ∧ c = j
  · obtain ⟨rfl, rfl, rfl⟩ := h1
    simp [h]
  · rw [if_neg h1]
    by_cases h2 : a = 1 ∧ b = 0 ∧ c < nn
    · rw [if_pos h2, if_pos h2]
    · rw [if_neg h2, if_neg h2]
      by_cases h3 : a = 4 ∧ b = 0 ∧ c < 21
      · rw [if_pos h3, if_pos h3, if_neg (fun hc => h1 ⟨h3.1, h3.2.1, hc⟩)]
      · rw [if_neg h3, if_neg h3]
theorem xP_add {nn : Nat} {mp : Nat → Nat} : nf_pu (xP nn mp) 1 0 nn (some (5, nn)) = xP (nn + 1) mp := by
  funext a b c
  simp only [nf_pu, xP]
  by_cases h1 : a = 1 ∧ b = 0 ∧ c = nn
  · obtain ⟨rfl, rfl, rfl⟩ := h1
    simp
  · rw [if_neg h1]
    by_cases h2 : a = 1 ∧ b = 0 ∧ c < nn
    · rw [if_pos h2, if_pos ⟨h2.1, h2.2.1, by omega⟩]
    · have h3 : ¬ (a = 1 ∧ b = 0 ∧ c < nn + 1) := by omega
      rw [if_neg h2, if_neg h3]
section XShapes
variable {cs : Nat → ClassId} {nn i : Nat}
theorem xS_5 (h : i < nn) : xS cs nn 5 i = some (.inl (1, [(0, 0), (0, 0), (0, 0), (2, 6), (2, 7), (1, 0), (0, 0)])) := if_pos h
theorem xS_6 (h : i < nn) : xS cs nn 6 i = some (.inr (cs 0, 8, 0)) := if_pos h
theorem xS_7 (h : i < nn) : xS cs nn 7 i = some (.inr (cs 1, 10, 1)) := if_pos h
theorem xS_8 (h : i < 21) : xS cs nn 8 i = some (.inl (0, [(0, 0), (0, 0), (0, 0), (0, 0), (0, 0), (0, 0), (0, 0), (0, 0), (1, 0)])) := if_pos h
end XShapes
/-! static helpers -/
def xs_isId (x : Int32) : Bool := if x < 0 then false else if 256 ≤ x then false else true
def xs_isFinger (j : Int32) : Bool := if j < 0 then false else if 8 ≤ j then false else true
def xs_fst (id j : Int32) : Int32 := (id + (1 <<< (j &&& 31))) &&& 255
def xs_up (a b : Int32) : Int32 := ((b - a - 1) &&& 255) + 1
def xs_pst (a b id : Int32) : Bool := if xs_up a b < xs_up a id then false else true
def xs_btw (a b id : Int32) : Bool := if xs_up a b ≤ xs_up a id then false else true
/-! nodes -/
def xs_mem (I : nf_I) (i : Nat) : Bool := if I 5 i 1 = -1 then false else true
def xs_nix (I : nf_I) (id : Int32) : Nat → Nat → Option Nat
  | 0, _ => none
  | n + 1, j => if I 5 j 0 = id then some j else xs_nix I id n (j + 1)
theorem xs_nix_lt {I : nf_I} {id : Int32} : ∀ {n j i : Nat}, xs_nix I id n j = some i → j ≤ i ∧ i < n + j ∧ I 5 i 0 = id
  | 0, j, i, h => by cases h
  | n + 1, j, i, h => by
    unfold xs_nix at h
    by_cases hc : I 5 j 0 = id
    · rw [if_pos hc] at h
      cases h
      exact ⟨Nat.le_refl _, by omega, hc⟩
    · rw [if_neg hc] at h
      obtain ⟨h1, h2, h3⟩ := xs_nix_lt h
      exact ⟨by omega, by omega, h3⟩
def xs_node (I : nf_I) (nn : Nat) (id : Int32) : Option Nat := xs_nix I id nn 0
theorem xs_node_lt {I : nf_I} {nn i : Nat} {id : Int32} (h : xs_node I nn id = some i) : i < nn := by
  have := (xs_nix_lt h).2.1
  omega
def xs_memb (I : nf_I) (nn : Nat) (id : Int32) : Option Nat := match xs_node I nn id with
  | none => none
  | some i => if xs_mem I i = false then none else some i
theorem xs_memb_lt {I : nf_I} {nn i : Nat} {id : Int32} (h : xs_memb I nn id = some i) : i < nn := by
  unfold xs_memb at h
  cases hn : xs_node I nn id with
  | none =>
    rw [hn] at h
    cases h
  | some j =>
    rw [hn] at h
    simp only at h
    split at h
    · cases h
    · cases h
      exact xs_node_lt hn
def xs_fu (I : nf_I) (st : Int32) : Nat → Nat → Int32 → Int32
  | 0, _, f => f
  | n + 1, j, f => xs_fu I st n (j + 1) (if xs_mem I j = false then f else if f = -1 then I 5 j 0 else if xs_up (st - 1) f ≤ xs_up (st - 1) (I 5 j 0) then f else I 5 j 0)
def xs_fd (I : nf_I) (st : Int32) : Nat → Nat → Int32 → Int32
  | 0, _, f => f
  | n + 1, j, f => xs_fd I st n (j + 1) (if xs_mem I j = false then f else if f = -1 then I 5 j 0 else if xs_up f (st + 1) ≤ xs_up (I 5 j 0) (st + 1) then f else I 5 j 0)
def xs_wf (I : nf_I) (nn i : Nat) : Nat → Nat → Int32 → Int32
  | 0, _, k => k
  | n + 1, j, k => xs_wf I nn i n (j + 1) (if I 6 i j = xs_fu I (xs_fst (I 5 i 0) (nI j)) nn 0 (-1) then k else k + 1)
def xs_wp (I : nf_I) (nn i : Nat) : Int32 :=
  let a : Int32 := if I 5 i 1 = xs_fu I (I 5 i 0 + 1) nn 0 (-1) then 0 else 0 + 1
  xs_wf I nn i 8 0 (if I 5 i 2 = xs_fd I (I 5 i 0 - 1) nn 0 (-1) then a else a + 1)
def xs_wr (I : nf_I) (nn : Nat) : Nat → Nat → Int32 → Int32
  | 0, _, k => k
  | n + 1, j, k => xs_wr I nn n (j + 1) (if xs_mem I j = false then k else k + xs_wp I nn j)
/-! keys -/
def xs_slx (I : nf_I) (key : Int32) : Nat → Nat → Int32
  | 0, _ => -1
  | n + 1, j => if I 2 0 j = key then nI j else xs_slx I key n (j + 1)
def xs_slot (I : nf_I) (kc : Nat) (key : Int32) : Int32 := xs_slx I key kc 0
theorem xs_slx_c {I : nf_I} {key : Int32} : ∀ {n j : Nat}, xs_slx I key n j = -1 ∨ ∃ i, j ≤ i ∧ i < n + j ∧ xs_slx I key n j = nI i ∧ I 2 0 i = key
  | 0, j => Or.inl rfl
  | n + 1, j => by
    unfold xs_slx
    by_cases hc : I 2 0 j = key
    · exact Or.inr ⟨j, Nat.le_refl _, by omega, by rw [if_pos hc], hc⟩
    · rw [if_neg hc]
      rcases xs_slx_c (n := n) (j := j + 1) with h | ⟨i, h1, h2, h3, h4⟩
      · exact Or.inl h
      · exact Or.inr ⟨i, by omega, by omega, h3, h4⟩
theorem xs_slot_c (I : nf_I) (kc : Nat) (key : Int32) : xs_slot I kc key = -1 ∨ ∃ i, i < kc ∧ xs_slot I kc key = nI i ∧ I 2 0 i = key := by
  rcases xs_slx_c (I := I) (key := key) (n := kc) (j := 0) with h | ⟨i, h1, h2, h3, h4⟩
  · exact Or.inl h
  · exact Or.inr ⟨i, by omega, h3, h4⟩
def xs_val (I : nf_I) (J : nf_J) (kc i : Nat) (key : Int32) : Int64 := if xs_slot I kc key = -1 then 4294967296 else J 7 i (xs_slot I kc key).toNatClampNeg
def xs_ent (J : nf_J) (i : Nat) : Nat → Nat → Int32 → Int32
  | 0, _, k => k
  | n + 1, j, k => xs_ent J i n (j + 1) (if lg_cmp (J 7 i j) 4294967296 = 0 then k else k + 1)
def xs_ens (I : nf_I) (J : nf_J) (nn : Nat) (id : Int32) : Int32 := match xs_memb I nn id with
  | none => -1
  | some i => xs_ent J i 10 0 0
def xs_mi (I : nf_I) (J : nf_J) (slot : Nat) (f : Int32) : Nat → Nat → Int32 → Int32
  | 0, _, k => k
  | n + 1, j, k => xs_mi I J slot f n (j + 1) (if lg_cmp (J 7 j slot) 4294967296 = 0 then k else if I 5 j 0 = f then k else k + 1)
def xs_mo (I : nf_I) (J : nf_J) (nn : Nat) : Nat → Nat → Int32 → Int32
  | 0, _, k => k
  | n + 1, j, k => xs_mo I J nn n (j + 1) (xs_mi I J j (xs_fu I (I 2 0 j) nn 0 (-1)) nn 0 k)
/-! the row -/
def xs_full (I : nf_I) : Bool := if I 3 0 1 < 20 then false else true
def xs_sI (I : nf_I) (o : Nat) (kind tz : Int32) : nf_I := nf_iu (nf_iu (nf_iu (nf_iu (nf_iu (nf_iu (nf_iu (nf_iu (nf_iu I 3 0 1 (I 3 0 1 + 1)) 8 o 0 kind) 8 o 1 tz) 8 o 2 (-1)) 8 o 3 0) 8 o 4 (-1)) 8 o 5 (-1)) 8 o 6 (-1)) 8 o 7 0
def xs_sJ (J : nf_J) (o : Nat) : nf_J := nf_ju J 8 o 8 0
def xs_fI (I : nf_I) (o : Nat) (tz asker purpose key : Int32) : nf_I := nf_iu (nf_iu (nf_iu (xs_sI I o 1 tz) 8 o 2 asker) 8 o 3 purpose) 8 o 4 key
def xs_at (I : nf_I) (mp : Nat → Nat) (k : Int32) : Option Nat := if k < 0 then none else if I 3 0 1 ≤ k then none else some (mp k.toNatClampNeg)
def xs_sh (mp : Nat → Nat) (k j : Nat) : Nat → Nat := fun c => if k ≤ c ∧ c < j then mp (c + 1) else mp c
theorem xs_sh_0 (mp : Nat → Nat) (k : Nat) : xs_sh mp k k = mp := by
  funext c
  unfold xs_sh
  rw [if_neg (by omega)]
theorem xs_sh_s (mp : Nat → Nat) {k j : Nat} (h : k ≤ j) : va_up (xs_sh mp k j) j (xs_sh mp k j (j + 1)) = xs_sh mp k (j + 1) := by
  funext c
  unfold va_up xs_sh
  by_cases hc : c = j
  · subst hc
    rw [if_pos rfl, if_neg (by omega), if_pos (by omega)]
  · rw [if_neg hc]
    by_cases h1 : k ≤ c ∧ c < j
    · rw [if_pos h1, if_pos (by omega)]
    · rw [if_neg h1, if_neg (by omega)]
theorem xs_sh_lt {mp : Nat → Nat} (hmp : ∀ j, j < 21 → mp j < 21) {k j c : Nat} (hj : j ≤ 20) (hc : c < 21) : xs_sh mp k j c < 21 := by
  unfold xs_sh
  by_cases h : k ≤ c ∧ c < j
  · rw [if_pos h]
    exact hmp _ (by omega)
  · rw [if_neg h]
    exact hmp _ hc
def xs_tk (mp : Nat → Nat) (k : Nat) : Nat → Nat := va_up (xs_sh mp k 20) 20 (mp k)
def xs_toI (I : nf_I) (mp : Nat → Nat) (k : Int32) : nf_I := match xs_at I mp k with
  | none => I
  | some _ => nf_iu I 3 0 1 (I 3 0 1 - 1)
def xs_toM (I : nf_I) (mp : Nat → Nat) (k : Int32) : Nat → Nat := match xs_at I mp k with
  | none => mp
  | some _ => xs_tk mp k.toNatClampNeg
def xs_tkB (I : nf_I) (kc : Nat) (key : Int32) : Bool := if xs_slot I kc key = -1 then (if I 0 0 3 < 10 then true else false) else true
def xs_tkI (I : nf_I) (kc : Nat) (key : Int32) : nf_I := if xs_slot I kc key = -1 then (if I 0 0 3 < 10 then nf_iu (nf_iu I 2 0 kc key) 0 0 3 (nf_iu I 2 0 kc key 0 0 3 + 1) else I) else I
/-! numbers -/
theorem nk_ix {x : Int32} {n : Nat} (h0 : ¬ x < 0) (h : ¬ nI n ≤ x) (hn : n < 2 ^ 31) : ∃ j : Nat, j < n ∧ x = nI j := by
  rcases pk_ix x hn with h1 | h1 | h1
  · exact absurd h1 h0
  · exact absurd h1 h
  · exact h1
theorem nk_lt {x : Int32} {a b : Nat} (hx : x = nI a) (h : x < nI b) (ha : a < 2 ^ 31) (hb : b < 2 ^ 31) : a < b := (nI_ltI ha hb).mp (by rw [← hx]; exact h)
theorem nk_ge {x : Int32} {a b : Nat} (hx : x = nI a) (h : nI b ≤ x) (ha : a < 2 ^ 31) (hb : b < 2 ^ 31) : b ≤ a := (nI_leI hb ha).mp (by rw [← hx]; exact h)
theorem nk_nge {x : Int32} {a b : Nat} (hx : x = nI a) (h : a < b) (hb : b < 2 ^ 31) : ¬ nI b ≤ x := by
  rw [hx]
  exact fun z => absurd ((nI_leI hb (by omega)).mp z) (by omega)
theorem xs_at_ix {I : nf_I} {mp : Nat → Nat} {k : Int32} {sz o : Nat} (hs : I 3 0 1 = nI sz) (hsz : sz < 2 ^ 31) (h : xs_at I mp k = some o) : ∃ kn, kn < sz ∧ k = nI kn ∧ mp kn = o := by
  unfold xs_at at h
  split at h
  · cases h
  next h1 =>
    split at h
    · cases h
    next h2 =>
      obtain ⟨kn, hkn, hke⟩ := nk_ix (n := sz) h1 (by rw [← hs]; exact h2) hsz
      refine ⟨kn, hkn, hke, ?_⟩
      rw [hke, nI_clamp (by omega)] at h
      exact Option.some.inj h
theorem xs_at_lt {I : nf_I} {mp : Nat → Nat} {k : Int32} {sz o : Nat} (hs : I 3 0 1 = nI sz) (hsz : sz ≤ 20) (hmp : ∀ j, j < 21 → mp j < 21) (h : xs_at I mp k = some o) : o < 21 := by
  obtain ⟨kn, h1, -, h3⟩ := xs_at_ix hs (by omega) h
  rw [← h3]
  exact hmp _ (by omega)
/-! arrivals -/
def xs_pd : Nat → Int32
  | 0 => -1
  | q + 1 => nI q
theorem xs_pd_dec (q : Nat) : nI q + Int32.ofInt (-1) = xs_pd q := by
  cases q with
  | zero => decide +kernel
  | succ q => exact pk_m1 q
def xs_nt (I : nf_I) (i : Nat) (key : Int32) : Nat → Int32
  | 0 => I 5 i 1
  | n + 1 => if I 6 i n = -1 then xs_nt I i key n else if xs_btw (I 5 i 0) key (I 6 i n) = false then xs_nt I i key n else I 6 i n
def xs_poI (I : nf_I) (i o onw : Nat) : nf_I :=
  let A := xs_fI I onw (xs_nt I i (I 8 o 4) 8) (I 8 o 2) (I 8 o 3) (I 8 o 4)
  let B := nf_iu A 8 onw 5 (A 8 o 5)
  nf_iu B 8 onw 7 (B 8 o 7 + 1)
def xs_poJ (J : nf_J) (o onw : Nat) : nf_J := nf_ju (xs_sJ J onw) 8 onw 8 (xs_sJ J onw 8 o 8)
def xs_f3 (I : nf_I) (i o onw : Nat) : nf_I :=
  let A := xs_sI I onw 3 (I 5 i 1)
  nf_iu A 8 onw 4 (A 8 o 4)
def xs_f4 (I : nf_I) (i o onw : Nat) : nf_I :=
  let A := xs_sI I onw 4 (I 5 i 1)
  let B := nf_iu A 8 onw 4 (A 8 o 4)
  let C := nf_iu B 8 onw 2 (B 8 o 2)
  nf_iu C 8 onw 7 (C 8 o 7)
def xs_f2 (I : nf_I) (i o onw : Nat) : nf_I :=
  let A := xs_sI I onw 2 (I 8 o 2)
  let B := nf_iu A 8 onw 3 (A 8 o 3)
  let C := nf_iu B 8 onw 5 (B 8 o 5)
  let E := nf_iu C 8 onw 6 (C 5 i 1)
  nf_iu E 8 onw 7 (E 8 o 7)
def xs_fiI (I : nf_I) (i o onw : Nat) : nf_I := if xs_pst (I 5 i 0) (I 5 i 1) (I 8 o 4) = false then xs_poI I i o onw else if I 8 o 3 = 3 then xs_f3 I i o onw else if I 8 o 3 = 4 then xs_f4 I i o onw else xs_f2 I i o onw
def xs_fiJ (I : nf_I) (J : nf_J) (i o onw : Nat) : nf_J := if xs_pst (I 5 i 0) (I 5 i 1) (I 8 o 4) = false then xs_poJ J o onw else if I 8 o 3 = 3 then xs_poJ J o onw else xs_sJ J onw
def xs_fo1 (I : nf_I) (i o : Nat) : nf_I := if I 8 o 3 = 1 then nf_iu I 5 i 1 (I 8 o 6) else if xs_isFinger (I 8 o 5) = false then I else nf_iu I 6 i (I 8 o 5).toNatClampNeg (I 8 o 6)
def xs_foI (I : nf_I) (i o : Nat) : nf_I := nf_iu (xs_fo1 I i o) 5 i 6 (xs_fo1 I i o 8 o 7)
theorem xs_isFinger_ix {x : Int32} (h : xs_isFinger x = true) : ∃ n, n < 8 ∧ x = nI n := by
  unfold xs_isFinger at h
  split at h
  · cases h
  next h1 =>
    split at h
    · cases h
    next h2 => exact nk_ix (n := 8) h1 h2 (by decide)
def xs_stJ (I : nf_I) (J : nf_J) (kc i o : Nat) : nf_J := if xs_slot I kc (I 8 o 4) = -1 then J else nf_ju J 7 i (xs_slot I kc (I 8 o 4)).toNatClampNeg (J 8 o 8)
def xs_feI (I : nf_I) (o onw : Nat) : nf_I := nf_iu (xs_sI I onw 5 (I 8 o 2)) 8 onw 7 (xs_sI I onw 5 (I 8 o 2) 8 o 7)
def xs_feJ (I : nf_I) (J : nf_J) (kc i o onw : Nat) : nf_J := nf_ju (xs_sJ J onw) 8 onw 8 (xs_val (xs_sI I onw 5 (I 8 o 2)) (xs_sJ J onw) kc i (xs_sI I onw 5 (I 8 o 2) 8 o 4))
def xs_asI (I : nf_I) (i o onw : Nat) : nf_I := nf_iu (xs_sI I onw 7 (I 8 o 6)) 8 onw 6 (xs_sI I onw 7 (I 8 o 6) 5 i 2)
def xs_teS (I : nf_I) (i o : Nat) : nf_I := if I 8 o 6 = -1 then I else if xs_btw (I 5 i 0) (I 5 i 1) (I 8 o 6) = false then I else nf_iu I 5 i 1 (I 8 o 6)
def xs_teI (I : nf_I) (i o onw : Nat) : nf_I := nf_iu (xs_sI (xs_teS I i o) onw 8 (xs_teS I i o 5 i 1)) 8 onw 6 (xs_sI (xs_teS I i o) onw 8 (xs_teS I i o 5 i 1) 5 i 0)
def xs_hoJ (I : nf_I) (i b : Nat) : Nat → Nat → nf_J → nf_J
  | 0, _, J => J
  | n + 1, j, J => xs_hoJ I i b n (j + 1) (if lg_cmp (J 7 i j) 4294967296 = 0 then J else if xs_pst (I 5 b 0) (I 5 i 0) (I 2 0 j) = true then J else nf_ju (nf_ju J 7 b j (J 7 i j)) 7 i j 4294967296)
def xs_noB (I : nf_I) (i o : Nat) : Bool := if I 5 i 2 = -1 then true else xs_btw (I 5 i 2) (I 5 i 0) (I 8 o 6)
def xs_noI (I : nf_I) (i o : Nat) : nf_I := if I 5 i 2 = -1 then nf_iu I 5 i 2 (I 8 o 6) else if xs_btw (I 5 i 2) (I 5 i 0) (I 8 o 6) = false then I else nf_iu I 5 i 2 (I 8 o 6)
def xs_no1 (I : nf_I) (J : nf_J) (nn kc i o : Nat) : nf_J := match xs_node (nf_iu I 5 i 2 (I 8 o 6)) nn (nf_iu I 5 i 2 (I 8 o 6) 8 o 6) with
  | none => J
  | some b => xs_hoJ (nf_iu I 5 i 2 (I 8 o 6)) i b kc 0 J
def xs_noJ (I : nf_I) (J : nf_J) (nn kc i o : Nat) : nf_J := if I 5 i 2 = -1 then xs_no1 I J nn kc i o else if xs_btw (I 5 i 2) (I 5 i 0) (I 8 o 6) = false then J else xs_no1 I J nn kc i o
/-! arrive -/
theorem xs_tk_lt {mp : Nat → Nat} (hmp : ∀ j, j < 21 → mp j < 21) {k : Nat} (hk : k < 21) : ∀ j, j < 21 → xs_tk mp k j < 21 := by
  intro j hj
  unfold xs_tk va_up
  by_cases h : j = 20
  · rw [if_pos h]
    exact hmp _ hk
  · rw [if_neg h]
    exact xs_sh_lt hmp (Nat.le_refl _) hj
def xs_szn (I : nf_I) : Nat := (I 3 0 1).toNatClampNeg
def xs_aI (I : nf_I) (i o onw : Nat) : nf_I := if I 8 o 0 = 1 then xs_fiI I i o onw else if I 8 o 0 = 2 then xs_foI I i o else if I 8 o 0 = 3 then I else if I 8 o 0 = 4 then xs_feI I o onw else if I 8 o 0 = 5 then nf_iu I 5 i 6 (I 8 o 7) else if I 8 o 0 = 6 then xs_asI I i o onw else if I 8 o 0 = 7 then xs_teI I i o onw else xs_noI I i o
def xs_aJ (I : nf_I) (J : nf_J) (nn kc i o onw : Nat) : nf_J := if I 8 o 0 = 1 then xs_fiJ I J i o onw else if I 8 o 0 = 2 then J else if I 8 o 0 = 3 then xs_stJ I J kc i o else if I 8 o 0 = 4 then xs_feJ I J kc i o onw else if I 8 o 0 = 5 then nf_ju J 5 i 5 (J 8 o 8) else if I 8 o 0 = 6 then xs_sJ J onw else if I 8 o 0 = 7 then xs_sJ J onw else xs_noJ I J nn kc i o
def xs_arr (I : nf_I) (J : nf_J) (mp : Nat → Nat) (nn kc : Nat) (k : Int32) : Int32 × nf_I × nf_J × (Nat → Nat) := match xs_at I mp k with
  | none => (-1, I, J, mp)
  | some o => match xs_node (nf_iu I 3 0 1 (I 3 0 1 - 1)) nn (nf_iu I 3 0 1 (I 3 0 1 - 1) 8 o 1) with
    | none => (nf_iu I 3 0 1 (I 3 0 1 - 1) 8 o 0, nf_iu I 3 0 1 (I 3 0 1 - 1), J, xs_tk mp k.toNatClampNeg)
    | some i => (xs_aI (nf_iu I 3 0 1 (I 3 0 1 - 1)) i o (xs_tk mp k.toNatClampNeg (xs_szn (nf_iu I 3 0 1 (I 3 0 1 - 1)))) 8 o 0, xs_aI (nf_iu I 3 0 1 (I 3 0 1 - 1)) i o (xs_tk mp k.toNatClampNeg (xs_szn (nf_iu I 3 0 1 (I 3 0 1 - 1)))), xs_aJ (nf_iu I 3 0 1 (I 3 0 1 - 1)) J nn kc i o (xs_tk mp k.toNatClampNeg (xs_szn (nf_iu I 3 0 1 (I 3 0 1 - 1)))), xs_tk mp k.toNatClampNeg)
theorem xs_arr_n {I I1 : nf_I} {J : nf_J} {mp M1 : Nat → Nat} {nn kc o : Nat} {k : Int32} (h1 : xs_at I mp k = some o) (hI : I1 = nf_iu I 3 0 1 (I 3 0 1 - 1)) (hM : M1 = xs_tk mp k.toNatClampNeg) (h2 : xs_node I1 nn (I1 8 o 1) = none) : xs_arr I J mp nn kc k = (I1 8 o 0, I1, J, M1) := by
  subst hI hM
  unfold xs_arr
  rw [h1]
  simp only
  rw [h2]
theorem xs_arr_s {I I1 : nf_I} {J : nf_J} {mp M1 : Nat → Nat} {nn kc o i q : Nat} {k : Int32} (h1 : xs_at I mp k = some o) (hI : I1 = nf_iu I 3 0 1 (I 3 0 1 - 1)) (hM : M1 = xs_tk mp k.toNatClampNeg) (h2 : xs_node I1 nn (I1 8 o 1) = some i) (hs : I1 3 0 1 = nI q) (hq : q < 2 ^ 31) : xs_arr I J mp nn kc k = (xs_aI I1 i o (M1 q) 8 o 0, xs_aI I1 i o (M1 q), xs_aJ I1 J nn kc i o (M1 q), M1) := by
  have e : xs_szn I1 = q := by unfold xs_szn; rw [hs, nI_clamp hq]
  subst hI hM
  unfold xs_arr
  rw [h1]
  simp only
  rw [h2, e]
theorem nk_sw7 (x : Int32) : x = 1 ∨ x = 2 ∨ x = 3 ∨ x = 4 ∨ x = 5 ∨ x = 6 ∨ x = 7 ∨ ((x.toInt < 1 ∨ 7 < x.toInt) ∧ ¬ x = 1 ∧ ¬ x = 2 ∧ ¬ x = 3 ∧ ¬ x = 4 ∧ ¬ x = 5 ∧ ¬ x = 6 ∧ ¬ x = 7) := by
  have k : ∀ n : Nat, n < 8 → x.toInt = (n : Int) → x = nI n := fun n hn h => Int32.toInt_inj.mp (by rw [h, nI_toInt (by omega)])
  by_cases h : x.toInt < 1 ∨ 7 < x.toInt
  · right; right; right; right; right; right; right
    refine ⟨h, ?_, ?_, ?_, ?_, ?_, ?_, ?_⟩ <;> (intro e; rw [e] at h; revert h; decide +kernel)
  · obtain ⟨n, hn⟩ : ∃ n : Nat, x.toInt = (n : Int) := ⟨x.toInt.toNat, by omega⟩
    have hx := k n (by omega) hn
    rcases (show n = 1 ∨ n = 2 ∨ n = 3 ∨ n = 4 ∨ n = 5 ∨ n = 6 ∨ n = 7 by omega) with rfl | rfl | rfl | rfl | rfl | rfl | rfl
    · exact Or.inl hx
    · exact Or.inr (Or.inl hx)
    · exact Or.inr (Or.inr (Or.inl hx))
    · exact Or.inr (Or.inr (Or.inr (Or.inl hx)))
    · exact Or.inr (Or.inr (Or.inr (Or.inr (Or.inl hx))))
    · exact Or.inr (Or.inr (Or.inr (Or.inr (Or.inr (Or.inl hx)))))
    · exact Or.inr (Or.inr (Or.inr (Or.inr (Or.inr (Or.inr (Or.inl hx))))))
/-! calls -/
def xs_msg (I : nf_I) (mp : Nat → Nat) (k : Int32) : Int32 := match xs_at I mp k with
  | none => -1
  | some o => I 8 o 0 * 256 + I 8 o 1
def xs_rd (I : nf_I) (nn : Nat) (id : Int32) (f : Nat) : Int32 := match xs_memb I nn id with
  | none => -1
  | some i => I 5 i f
def xs_fgr (I : nf_I) (nn : Nat) (id j : Int32) : Int32 := match xs_memb I nn id with
  | none => -1
  | some i => if xs_isFinger j = false then -1 else I 6 i j.toNatClampNeg
def xs_ety (I : nf_I) (J : nf_J) (nn kc : Nat) (id key : Int32) : Int64 := match xs_memb I nn id with
  | none => 4294967296
  | some i => xs_val I J kc i key
def xs_ans (I : nf_I) (J : nf_J) (nn : Nat) (id : Int32) : Int64 := match xs_node I nn id with
  | none => 8589934592
  | some i => J 5 i 5
def xs_hps (I : nf_I) (nn : Nat) (id : Int32) : Int32 := match xs_node I nn id with
  | none => -1
  | some i => I 5 i 6
def xs_own (I : nf_I) (nn : Nat) (key : Int32) : Int32 := if xs_isId key = false then -1 else xs_fu I key nn 0 (-1)
theorem xs_full_n {I : nf_I} {sz : Nat} (hs : I 3 0 1 = nI sz) (h20 : sz < 2 ^ 31) (h : xs_full I = false) : sz < 20 := by
  unfold xs_full at h
  split at h
  next h1 => exact nk_lt hs h1 h20 (by decide)
  · cases h
def xs_stbB (I : nf_I) (nn : Nat) (id : Int32) : Bool := match xs_memb I nn id with
  | none => false
  | some _ => if xs_full I = false then true else false
def xs_stbI (I : nf_I) (nn onw : Nat) (id : Int32) : nf_I := match xs_memb I nn id with
  | none => I
  | some i => if xs_full I = false then nf_iu (xs_sI I onw 6 (I 5 i 1)) 8 onw 6 id else I
def xs_stbJ (I : nf_I) (J : nf_J) (nn onw : Nat) (id : Int32) : nf_J := match xs_memb I nn id with
  | none => J
  | some _ => if xs_full I = false then xs_sJ J onw else J
def xs_fixB (I : nf_I) (nn : Nat) (id j : Int32) : Bool := match xs_memb I nn id with
  | none => false
  | some _ => if xs_isFinger j = false then false else if xs_full I = false then true else false
def xs_fixI (I : nf_I) (nn onw : Nat) (id j : Int32) : nf_I := match xs_memb I nn id with
  | none => I
  | some _ => if xs_isFinger j = false then I else if xs_full I = false then nf_iu (xs_fI I onw id id 2 (xs_fst id j)) 8 onw 5 j else I
def xs_fixJ (I : nf_I) (J : nf_J) (nn onw : Nat) (id j : Int32) : nf_J := match xs_memb I nn id with
  | none => J
  | some _ => if xs_isFinger j = false then J else if xs_full I = false then xs_sJ J onw else J
def xs_getB (I : nf_I) (nn : Nat) (id key : Int32) : Bool := match xs_memb I nn id with
  | none => false
  | some _ => if xs_isId key = false then false else if xs_full I = false then true else false
def xs_getI (I : nf_I) (nn onw : Nat) (id key : Int32) : nf_I := match xs_memb I nn id with
  | none => I
  | some _ => if xs_isId key = false then I else if xs_full I = false then xs_fI I onw id id 4 key else I
def xs_getJ (I : nf_I) (J : nf_J) (nn onw : Nat) (id key : Int32) : nf_J := match xs_memb I nn id with
  | none => J
  | some _ => if xs_isId key = false then J else if xs_full I = false then xs_sJ J onw else J
def xs_putB (I : nf_I) (nn kc : Nat) (id key : Int32) : Bool := match xs_memb I nn id with
  | none => false
  | some _ => if xs_isId key = false then false else if xs_full I = false then xs_tkB I kc key else false
def xs_putI (I : nf_I) (nn kc onw : Nat) (id key : Int32) : nf_I := match xs_memb I nn id with
  | none => I
  | some _ => if xs_isId key = false then I else if xs_full I = false then (if xs_tkB I kc key = false then xs_tkI I kc key else xs_fI (xs_tkI I kc key) onw id id 3 key) else I
def xs_putJ (I : nf_I) (J : nf_J) (nn kc onw : Nat) (id key v : Int32) : nf_J := match xs_memb I nn id with
  | none => J
  | some _ => if xs_isId key = false then J else if xs_full I = false then (if xs_tkB I kc key = false then J else nf_ju (xs_sJ J onw) 8 onw 8 v.toInt64) else J
theorem xs_tkI_row (I : nf_I) (kc : Nat) (key : Int32) : xs_tkI I kc key 3 0 1 = I 3 0 1 := by
  unfold xs_tkI
  split
  · split
    · simp [nf_iu]
    · rfl
  · rfl
end
section
/-! Static helpers and leaves. -/
section XL
variable {l : Launch} {D : va_G} {cs : Nat → ClassId} {Bs nn : Nat} {ad : nf_A} {I : nf_I} {J : nf_J} {mp : Nat → Nat}
set_option maxHeartbeats 4000000 in
set_option maxRecDepth 100000 in
theorem ct_X3_isId {x : Int32}  : nf_Ti l yX3_isId wsX3_isId 0 0 D vwCl (xT cs) Bs (xS cs nn) ad [.int x] I J (xP nn mp) (nb_I (xs_isId x)) I J (xP nn mp) := by
  refine nf_enterz (cc := cX3_isId) (maxL := 1) (by decide) rfl (Nat.le_of_ble_eq_true rfl) ?_
  intro p e s m below meth c ls Q hC hM hl hret
  have hx := hC.1.1
  have hb := hC.1.2.1
  have hl : lv_has ls 1 [(0, .int x)] := hl
  refine lv_iload_n (pc := 0) hx hb dX3_isId_0 rfl (lv_at hl 0 rfl) ?_
  refine lv_if_lt (pc := 1) (tgt := 15) hx hb dX3_isId_1 (by decide) (fun h1 => ?_) (fun h1 => ?_)
  · skip
    refine lv_iconst (pc := 15) (v := 0) hx hb dX3_isId_15 (by decide) ?_
    exact hret _ _ _ _ _ _ _ _ (by simp [nb_I, xs_isId, h1]) rfl rfl rfl hM dX3_isId_16
  · skip
    refine lv_iload_n (pc := 4) hx hb dX3_isId_4 rfl (lv_at hl 0 rfl) ?_
    refine lv_sipush (pc := 5) (v := 256) hx hb dX3_isId_5 (by decide) ?_
    refine lv_icmp_ge (pc := 8) (tgt := 15) hx hb dX3_isId_8 (by decide) (fun h2 => ?_) (fun h2 => ?_)
    · skip
      refine lv_iconst (pc := 15) (v := 0) hx hb dX3_isId_15 (by decide) ?_
      exact hret _ _ _ _ _ _ _ _ (by simp [nb_I, xs_isId, h1, h2]) rfl rfl rfl hM dX3_isId_16
    · skip
      refine lv_iconst (pc := 11) (v := 1) hx hb dX3_isId_11 (by decide) ?_
      refine lv_goto (pc := 12) (tgt := 16) hx hb dX3_isId_12 (by decide) ?_
      exact hret _ _ _ _ _ _ _ _ (by simp [nb_I, xs_isId, h1, h2]) rfl rfl rfl hM dX3_isId_16
set_option maxHeartbeats 4000000 in
set_option maxRecDepth 100000 in
theorem ct_X3_isFinger {x : Int32}  : nf_Ti l yX3_isFinger wsX3_isFinger 0 0 D vwCl (xT cs) Bs (xS cs nn) ad [.int x] I J (xP nn mp) (nb_I (xs_isFinger x)) I J (xP nn mp) := by
  refine nf_enterz (cc := cX3_isFinger) (maxL := 1) (by decide) rfl (Nat.le_of_ble_eq_true rfl) ?_
  intro p e s m below meth c ls Q hC hM hl hret
  have hx := hC.1.1
  have hb := hC.1.2.1
  have hl : lv_has ls 1 [(0, .int x)] := hl
  refine lv_iload_n (pc := 0) hx hb dX3_isFinger_0 rfl (lv_at hl 0 rfl) ?_
  refine lv_if_lt (pc := 1) (tgt := 14) hx hb dX3_isFinger_1 (by decide) (fun h1 => ?_) (fun h1 => ?_)
  · skip
    refine lv_iconst (pc := 14) (v := 0) hx hb dX3_isFinger_14 (by decide) ?_
    exact hret _ _ _ _ _ _ _ _ (by simp [nb_I, xs_isFinger, h1]) rfl rfl rfl hM dX3_isFinger_15
  · skip
    refine lv_iload_n (pc := 4) hx hb dX3_isFinger_4 rfl (lv_at hl 0 rfl) ?_
    refine lv_bipush (pc := 5) (v := 8) hx hb dX3_isFinger_5 (by decide) ?_
    refine lv_icmp_ge (pc := 7) (tgt := 14) hx hb dX3_isFinger_7 (by decide) (fun h2 => ?_) (fun h2 => ?_)
    · skip
      refine lv_iconst (pc := 14) (v := 0) hx hb dX3_isFinger_14 (by decide) ?_
      exact hret _ _ _ _ _ _ _ _ (by simp [nb_I, xs_isFinger, h1, h2]) rfl rfl rfl hM dX3_isFinger_15
    · skip
      refine lv_iconst (pc := 10) (v := 1) hx hb dX3_isFinger_10 (by decide) ?_
      refine lv_goto (pc := 11) (tgt := 15) hx hb dX3_isFinger_11 (by decide) ?_
      exact hret _ _ _ _ _ _ _ _ (by simp [nb_I, xs_isFinger, h1, h2]) rfl rfl rfl hM dX3_isFinger_15
set_option maxHeartbeats 4000000 in
set_option maxRecDepth 100000 in
theorem ct_X3_fingerStart {x y : Int32}  : nf_Ti l yX3_fingerStart wsX3_fingerStart 0 0 D vwCl (xT cs) Bs (xS cs nn) ad [.int x, .int y] I J (xP nn mp) (xs_fst x y) I J (xP nn mp) := by
  refine nf_enteri (cc := cX3_fingerStart) (maxL := 2) (by decide) rfl (Nat.le_of_ble_eq_true rfl) ?_
  intro p e s m below meth c ls Q hC hM hl hret
  have hx := hC.1.1
  have hb := hC.1.2.1
  have hl : lv_has ls 2 [(0, .int x), (1, .int y)] := hl
  refine lv_iload_n (pc := 0) hx hb dX3_fingerStart_0 rfl (lv_at hl 0 rfl) ?_
  refine lv_iconst (pc := 1) (v := 1) hx hb dX3_fingerStart_1 (by decide) ?_
  refine lv_iload_n (pc := 2) hx hb dX3_fingerStart_2 rfl (lv_at hl 1 rfl) ?_
  refine lv_ishl (pc := 3) hx hb dX3_fingerStart_3 ?_
  refine lv_iadd (pc := 4) hx hb dX3_fingerStart_4 ?_
  refine lv_sipush (pc := 5) (v := 255) hx hb dX3_fingerStart_5 (by decide) ?_
  refine lv_iand (pc := 8) hx hb dX3_fingerStart_8 ?_
  exact hret _ _ _ _ _ _ _ _ rfl rfl rfl rfl hM dX3_fingerStart_9
set_option maxHeartbeats 4000000 in
set_option maxRecDepth 100000 in
theorem ct_X3_stepsUp {x y : Int32}  : nf_Ti l yX3_stepsUp wsX3_stepsUp 0 0 D vwCl (xT cs) Bs (xS cs nn) ad [.int x, .int y] I J (xP nn mp) (xs_up x y) I J (xP nn mp) := by
  refine nf_enteri (cc := cX3_stepsUp) (maxL := 2) (by decide) rfl (Nat.le_of_ble_eq_true rfl) ?_
  intro p e s m below meth c ls Q hC hM hl hret
  have hx := hC.1.1
  have hb := hC.1.2.1
  have hl : lv_has ls 2 [(0, .int x), (1, .int y)] := hl
  refine lv_iload_n (pc := 0) hx hb dX3_stepsUp_0 rfl (lv_at hl 1 rfl) ?_
  refine lv_iload_n (pc := 1) hx hb dX3_stepsUp_1 rfl (lv_at hl 0 rfl) ?_
  refine lv_isub (pc := 2) hx hb dX3_stepsUp_2 ?_
  refine lv_iconst (pc := 3) (v := 1) hx hb dX3_stepsUp_3 (by decide) ?_
  refine lv_isub (pc := 4) hx hb dX3_stepsUp_4 ?_
  refine lv_sipush (pc := 5) (v := 255) hx hb dX3_stepsUp_5 (by decide) ?_
  refine lv_iand (pc := 8) hx hb dX3_stepsUp_8 ?_
  refine lv_iconst (pc := 9) (v := 1) hx hb dX3_stepsUp_9 (by decide) ?_
  refine lv_iadd (pc := 10) hx hb dX3_stepsUp_10 ?_
  exact hret _ _ _ _ _ _ _ _ rfl rfl rfl rfl hM dX3_stepsUp_11
set_option maxHeartbeats 4000000 in
set_option maxRecDepth 100000 in
theorem ct_X3_isPastUpTo {x y z : Int32}  : nf_Ti l yX3_isPastUpTo wsX3_isPastUpTo 1 21 D vwCl (xT cs) Bs (xS cs nn) ad [.int x, .int y, .int z] I J (xP nn mp) (nb_I (xs_pst x y z)) I J (xP nn mp) := by
  refine nf_enterz (cc := cX3_isPastUpTo) (maxL := 3) (by decide) rfl (Nat.le_of_ble_eq_true rfl) ?_
  intro p e s m below meth c ls Q hC hM hl hret
  have hx := hC.1.1
  have hb := hC.1.2.1
  have hl : lv_has ls 3 [(0, .int x), (1, .int y), (2, .int z)] := hl
  refine lv_iload_n (pc := 0) hx hb dX3_isPastUpTo_0 rfl (lv_at hl 0 rfl) ?_
  refine lv_iload_n (pc := 1) hx hb dX3_isPastUpTo_1 rfl (lv_at hl 2 rfl) ?_
  refine nf_calli (pc := 2) (va_runS (As := [.int x, .int z]) (rest := []) hC.1 (ct_X3_stepsUp) (cwS 2 hC.1.2.2.2.2 (gd_S wM_X3_138 wst_X3_stepsUp wini_X3 wcode_X3_stepsUp) rfl rfl rfl (by decide +kernel) ⟨by decide, by decide⟩) (nf_preS hC hM) rfl rfl hl.1 rfl (lv_room (Nat.le_of_ble_eq_true rfl)) dX3_isPastUpTo_2 ⟨Nat.le_refl _, Nat.le_refl _⟩) hM (fun H locs hM => ?_)
  refine lv_iload_n (pc := 5) hx hb dX3_isPastUpTo_5 rfl (lv_at hl 0 rfl) ?_
  refine lv_iload_n (pc := 6) hx hb dX3_isPastUpTo_6 rfl (lv_at hl 1 rfl) ?_
  refine nf_calli (pc := 7) (va_runS (As := [.int x, .int y]) (rest := [.int (xs_up x z)]) hC.1 (ct_X3_stepsUp) (cwS 2 hC.1.2.2.2.2 (gd_S wM_X3_138 wst_X3_stepsUp wini_X3 wcode_X3_stepsUp) rfl rfl rfl (by decide +kernel) ⟨by decide, by decide⟩) (nf_preS hC hM) rfl rfl hl.1 rfl (lv_room (Nat.le_of_ble_eq_true rfl)) dX3_isPastUpTo_7 ⟨Nat.le_refl _, Nat.le_refl _⟩) hM (fun H locs hM => ?_)
  refine lv_icmp_gt (pc := 10) (tgt := 17) hx hb dX3_isPastUpTo_10 (by decide) (fun h1 => ?_) (fun h1 => ?_)
  · skip
    refine lv_iconst (pc := 17) (v := 0) hx hb dX3_isPastUpTo_17 (by decide) ?_
    exact hret _ _ _ _ _ _ _ _ (by simp [nb_I, xs_pst, h1]) rfl rfl rfl hM dX3_isPastUpTo_18
  · skip
    refine lv_iconst (pc := 13) (v := 1) hx hb dX3_isPastUpTo_13 (by decide) ?_
    refine lv_goto (pc := 14) (tgt := 18) hx hb dX3_isPastUpTo_14 (by decide) ?_
    exact hret _ _ _ _ _ _ _ _ (by simp [nb_I, xs_pst, h1]) rfl rfl rfl hM dX3_isPastUpTo_18
set_option maxHeartbeats 4000000 in
set_option maxRecDepth 100000 in
theorem ct_X3_isBetween {x y z : Int32}  : nf_Ti l yX3_isBetween wsX3_isBetween 1 21 D vwCl (xT cs) Bs (xS cs nn) ad [.int x, .int y, .int z] I J (xP nn mp) (nb_I (xs_btw x y z)) I J (xP nn mp) := by
  refine nf_enterz (cc := cX3_isBetween) (maxL := 3) (by decide) rfl (Nat.le_of_ble_eq_true rfl) ?_
  intro p e s m below meth c ls Q hC hM hl hret
  have hx := hC.1.1
  have hb := hC.1.2.1
  have hl : lv_has ls 3 [(0, .int x), (1, .int y), (2, .int z)] := hl
  refine lv_iload_n (pc := 0) hx hb dX3_isBetween_0 rfl (lv_at hl 0 rfl) ?_
  refine lv_iload_n (pc := 1) hx hb dX3_isBetween_1 rfl (lv_at hl 2 rfl) ?_
  refine nf_calli (pc := 2) (va_runS (As := [.int x, .int z]) (rest := []) hC.1 (ct_X3_stepsUp) (cwS 2 hC.1.2.2.2.2 (gd_S wM_X3_138 wst_X3_stepsUp wini_X3 wcode_X3_stepsUp) rfl rfl rfl (by decide +kernel) ⟨by decide, by decide⟩) (nf_preS hC hM) rfl rfl hl.1 rfl (lv_room (Nat.le_of_ble_eq_true rfl)) dX3_isBetween_2 ⟨Nat.le_refl _, Nat.le_refl _⟩) hM (fun H locs hM => ?_)
  refine lv_iload_n (pc := 5) hx hb dX3_isBetween_5 rfl (lv_at hl 0 rfl) ?_
  refine lv_iload_n (pc := 6) hx hb dX3_isBetween_6 rfl (lv_at hl 1 rfl) ?_
  refine nf_calli (pc := 7) (va_runS (As := [.int x, .int y]) (rest := [.int (xs_up x z)]) hC.1 (ct_X3_stepsUp) (cwS 2 hC.1.2.2.2.2 (gd_S wM_X3_138 wst_X3_stepsUp wini_X3 wcode_X3_stepsUp) rfl rfl rfl (by decide +kernel) ⟨by decide, by decide⟩) (nf_preS hC hM) rfl rfl hl.1 rfl (lv_room (Nat.le_of_ble_eq_true rfl)) dX3_isBetween_7 ⟨Nat.le_refl _, Nat.le_refl _⟩) hM (fun H locs hM => ?_)
  refine lv_icmp_ge (pc := 10) (tgt := 17) hx hb dX3_isBetween_10 (by decide) (fun h1 => ?_) (fun h1 => ?_)
  · skip
    refine lv_iconst (pc := 17) (v := 0) hx hb dX3_isBetween_17 (by decide) ?_
    exact hret _ _ _ _ _ _ _ _ (by simp [nb_I, xs_btw, h1]) rfl rfl rfl hM dX3_isBetween_18
  · skip
    refine lv_iconst (pc := 13) (v := 1) hx hb dX3_isBetween_13 (by decide) ?_
    refine lv_goto (pc := 14) (tgt := 18) hx hb dX3_isBetween_14 (by decide) ?_
    exact hret _ _ _ _ _ _ _ _ (by simp [nb_I, xs_btw, h1]) rfl rfl rfl hM dX3_isBetween_18
set_option maxHeartbeats 4000000 in
set_option maxRecDepth 100000 in
theorem ct_X1_isMember {i : Nat} (hi : i < nn) : nf_Ti l yX1_isMember wsX1_isMember 0 0 D vwCl (xT cs) Bs (xS cs nn) ad [.ref (ad 5 i)] I J (xP nn mp) (nb_I (xs_mem I i)) I J (xP nn mp) := by
  refine nf_enterz (cc := cX1_isMember) (maxL := 1) (by decide) rfl (Nat.le_of_ble_eq_true rfl) ?_
  intro p e s m below meth c ls Q hC hM hl hret
  have hx := hC.1.1
  have hb := hC.1.2.1
  have hl : lv_has ls 1 [(0, .ref (ad 5 i))] := hl
  have hinX1 : ∀ w ∈ u_ws RX1 TX1 7, w ∈ wsX1_isMember := fun w h => List.mem_cons_of_mem _ (inX1 w h)
  refine lv_aload_n (pc := 0) hx hb dX1_isMember_0 rfl (lv_at hl 0 rfl) ?_
  refine nf_geti (pc := 1) hC hinX1 hM (xS_5 (by first | assumption | omega)) rfl 1 (by decide) (List.mem_cons_of_mem _ wF_X1_9) rfl dX1_isMember_1 ?_
  refine lv_iconst (pc := 4) (v := -1) hx hb dX1_isMember_4 (by decide) ?_
  refine lv_icmp_eq (pc := 5) (tgt := 12) hx hb dX1_isMember_5 (by decide) (fun h1 => ?_) (fun h1 => ?_)
  · skip
    refine lv_iconst (pc := 12) (v := 0) hx hb dX1_isMember_12 (by decide) ?_
    exact hret _ _ _ _ _ _ _ _ (by simp [nb_I, xs_mem, h1]) rfl rfl rfl hM dX1_isMember_13
  · skip
    refine lv_iconst (pc := 8) (v := 1) hx hb dX1_isMember_8 (by decide) ?_
    refine lv_goto (pc := 9) (tgt := 13) hx hb dX1_isMember_9 (by decide) ?_
    exact hret _ _ _ _ _ _ _ _ (by simp [nb_I, xs_mem, h1]) rfl rfl rfl hM dX1_isMember_13
set_option maxHeartbeats 4000000 in
set_option maxRecDepth 100000 in
theorem ct_X2_isFull   : nf_Ti l yX2_isFull wsX2_isFull 0 0 D vwCl (xT cs) Bs (xS cs nn) ad [.ref (ad 3 0)] I J (xP nn mp) (nb_I (xs_full I)) I J (xP nn mp) := by
  refine nf_enterz (cc := cX2_isFull) (maxL := 1) (by decide) rfl (Nat.le_of_ble_eq_true rfl) ?_
  intro p e s m below meth c ls Q hC hM hl hret
  have hx := hC.1.1
  have hb := hC.1.2.1
  have hl : lv_has ls 1 [(0, .ref (ad 3 0))] := hl
  have hinX2 : ∀ w ∈ u_ws RX2 TX2 2, w ∈ wsX2_isFull := fun w h => List.mem_cons_of_mem _ (inX2 w h)
  refine lv_aload_n (pc := 0) hx hb dX2_isFull_0 rfl (lv_at hl 0 rfl) ?_
  refine nf_geti (pc := 1) hC hinX2 hM rfl rfl 1 (by decide) (List.mem_cons_of_mem _ wF_X2_17) rfl dX2_isFull_1 ?_
  refine lv_bipush (pc := 4) (v := 20) hx hb dX2_isFull_4 (by decide) ?_
  refine lv_icmp_lt (pc := 6) (tgt := 13) hx hb dX2_isFull_6 (by decide) (fun h1 => ?_) (fun h1 => ?_)
  · skip
    refine lv_iconst (pc := 13) (v := 0) hx hb dX2_isFull_13 (by decide) ?_
    exact hret _ _ _ _ _ _ _ _ (by simp [nb_I, xs_full, h1]) rfl rfl rfl hM dX2_isFull_14
  · skip
    refine lv_iconst (pc := 9) (v := 1) hx hb dX2_isFull_9 (by decide) ?_
    refine lv_goto (pc := 10) (tgt := 14) hx hb dX2_isFull_10 (by decide) ?_
    exact hret _ _ _ _ _ _ _ _ (by simp [nb_I, xs_full, h1]) rfl rfl rfl hM dX2_isFull_14
end XL
end
section
/-! nodeWith, memberWith. -/
section XM
variable {l : Launch} {D : va_G} {cs : Nat → ClassId} {Bs nn : Nat} {ad : nf_A} {I : nf_I} {J : nf_J} {mp : Nat → Nat}
set_option maxHeartbeats 4000000 in
set_option maxRecDepth 100000 in
theorem ct_X3_nodeWith {id : Int32} (hn : I 0 0 1 = nI nn) (hnn : nn ≤ 12) : nf_Tq l yX3_nodeWith wsX3_nodeWith 0 0 D vwCl (xT cs) Bs (xS cs nn) ad [.ref (ad 0 0), .int id] I J (xP nn mp) ((xs_node I nn id).map (ad 5)) I J (xP nn mp) := by
  refine nf_enterq (cc := cX3_nodeWith) (maxL := 3) (by decide) rfl (Nat.le_of_ble_eq_true rfl) ?_
  intro p e s m below meth c ls Q hC hM hl hret
  have hx := hC.1.1
  have hb := hC.1.2.1
  have hl : lv_has ls 3 [(0, .ref (ad 0 0)), (1, .int id)] := hl
  have hinX1 : ∀ w ∈ u_ws RX1 TX1 7, w ∈ wsX3_nodeWith := fun w h => List.mem_cons_of_mem _ (inX1 w h)
  have hinX3 : ∀ w ∈ u_ws RX3 TX3 5, w ∈ wsX3_nodeWith := fun w h => List.mem_cons_of_mem _ (inX3 w h)
  refine lv_iconst (pc := 0) (v := 0) hx hb dX3_nodeWith_0 (by decide) ?_
  refine lv_istore_n (pc := 1) (lv' := [(2, .int 0), (0, .ref (ad 0 0)), (1, .int id)]) hx hb dX3_nodeWith_1 rfl hl (by decide) rfl (fun ls hl => ?_)
  have loop2 : ∀ (n : Nat) (j : Nat) (ls : Array Slot) (H : Heap) (locs : List Loc), nn - j < n → j ≤ nn → xs_node I nn id = xs_nix I id (nn - j) j → nf_M D vwCl Bs (xS cs nn) ad I J (xP nn mp) s.heap H locs → lv_has ls 3 [(2, .int (nI j)), (0, .ref (ad 0 0)), (1, .int id)] → W p l e (nf_Rm 0 0) s m ([.ref (ad 0 0), .int id] : List Value).toArray below meth c H locs 0 0 Q (F0 m 2 ls []) := by
    intro n
    induction n with
    | zero => exact fun _ _ _ _ hmz => absurd hmz (Nat.not_lt_zero _)
    | succ n ihloop2 =>
      intro j ls H locs hmz hjn hf hM hl
      refine lv_iload_n (pc := 2) hx hb dX3_nodeWith_2 rfl (lv_at hl 0 rfl) ?_
      refine lv_aload_n (pc := 3) hx hb dX3_nodeWith_3 rfl (lv_at hl 1 rfl) ?_
      refine nf_geti (pc := 4) hC hinX3 hM rfl rfl 1 (by decide) (List.mem_cons_of_mem _ wF_X3_15) rfl dX3_nodeWith_4 ?_
      refine lv_icmp_ge (pc := 7) (tgt := 36) hx hb dX3_nodeWith_7 (by decide) (fun hh => ?_) (fun hh => ?_)
      · have hj1 : nn ≤ j := (nI_leI (by omega) (by omega)).mp (by rw [hn] at hh; exact hh)
        refine lv_null (pc := 36) hx hb dX3_nodeWith_36 ?_
        exact hret _ _ _ _ _ _ _ _ (by rw [hf, show nn - j = 0 by omega]; rfl) rfl rfl rfl hM dX3_nodeWith_37
      · have hj1 : j < nn := Nat.lt_of_not_le (fun z => hh (by rw [hn]; exact (nI_leI (by omega) (by omega)).mpr z))
        refine lv_aload_n (pc := 10) hx hb dX3_nodeWith_10 rfl (lv_at hl 1 rfl) ?_
        refine nf_getr (pc := 11) hC hinX3 hM rfl rfl 0 (by decide) (List.mem_cons_of_mem _ wF_X3_11) rfl dX3_nodeWith_11 ?_
        refine lv_iload_n (pc := 14) hx hb dX3_nodeWith_14 rfl (lv_at hl 0 rfl) ?_
        refine nf_aald (pc := 15) hC hM 2 rfl rfl j rfl (by omega) (by decide) (xP_1 (by first | assumption | omega)) dX3_nodeWith_15 ?_
        refine nf_geti (pc := 16) hC hinX1 hM (xS_5 (by first | assumption | omega)) rfl 0 (by decide) (List.mem_cons_of_mem _ wF_X3_135) rfl dX3_nodeWith_16 ?_
        refine lv_iload_n (pc := 19) hx hb dX3_nodeWith_19 rfl (lv_at hl 2 rfl) ?_
        refine lv_icmp_ne (pc := 20) (tgt := 30) hx hb dX3_nodeWith_20 (by decide) (fun h2 => ?_) (fun h2 => ?_)
        · skip
          refine lv_iinc (pc := 30) (k := 0) (v := nI (j + 1)) (lv' := [(2, .int (nI (j + 1))), (0, .ref (ad 0 0)), (1, .int id)]) hx hb dX3_nodeWith_30 hl rfl (nI_1 _) (by decide) rfl (fun ls hl => ?_)
          refine lv_goto (pc := 33) (tgt := 2) hx hb dX3_nodeWith_33 (by decide) ?_
          exact ihloop2 (j + 1) ls _ _ (by omega) (by omega) (by rw [hf, show nn - j = (nn - (j + 1)) + 1 by omega]; simp [xs_nix, h2]) hM hl
        · skip
          refine lv_aload_n (pc := 23) hx hb dX3_nodeWith_23 rfl (lv_at hl 1 rfl) ?_
          refine nf_getr (pc := 24) hC hinX3 hM rfl rfl 0 (by decide) (List.mem_cons_of_mem _ wF_X3_11) rfl dX3_nodeWith_24 ?_
          refine lv_iload_n (pc := 27) hx hb dX3_nodeWith_27 rfl (lv_at hl 0 rfl) ?_
          refine nf_aald (pc := 28) hC hM 2 rfl rfl j rfl (by omega) (by decide) (xP_1 (by first | assumption | omega)) dX3_nodeWith_28 ?_
          exact hret _ _ _ _ _ _ _ _ (by rw [hf, show nn - j = (nn - (j + 1)) + 1 by omega]; simp [xs_nix, va_rf, h2]) rfl rfl rfl hM dX3_nodeWith_29
  exact loop2 _ 0 ls _ _ (Nat.lt_succ_self _) (Nat.zero_le _) rfl hM hl
set_option maxHeartbeats 4000000 in
set_option maxRecDepth 100000 in
theorem ct_X3_memberWith {id : Int32} (hn : I 0 0 1 = nI nn) (hnn : nn ≤ 12) : nf_Tq l yX3_memberWith wsX3_memberWith 1 22 D vwCl (xT cs) Bs (xS cs nn) ad [.ref (ad 0 0), .int id] I J (xP nn mp) ((xs_memb I nn id).map (ad 5)) I J (xP nn mp) := by
  refine nf_enterq (cc := cX3_memberWith) (maxL := 3) (by decide) rfl (Nat.le_of_ble_eq_true rfl) ?_
  intro p e s m below meth c ls Q hC hM hl hret
  have hx := hC.1.1
  have hb := hC.1.2.1
  have hl : lv_has ls 3 [(0, .ref (ad 0 0)), (1, .int id)] := hl
  refine lv_aload_n (pc := 0) hx hb dX3_memberWith_0 rfl (lv_at hl 0 rfl) ?_
  refine lv_iload_n (pc := 1) hx hb dX3_memberWith_1 rfl (lv_at hl 1 rfl) ?_
  refine nf_callq (pc := 2) (va_runV (As := [.int id]) (rest := []) hC.1 (ct_X3_nodeWith (id := id) hn hnn) (cwV 1 hC.1.2.2.2.2 (gd_V wM_X3_44 wi_X3_nodeWith wsel_X3_nodeWith wini_X3 wcode_X3_nodeWith) rfl rfl rfl (by decide +kernel) ⟨by decide, by decide⟩) (nf_preV hC hM rfl rfl) rfl rfl hl.1 rfl (lv_room (Nat.le_of_ble_eq_true rfl)) dX3_memberWith_2 ⟨Nat.le_refl _, Nat.le_refl _⟩) hM (fun H locs hM => ?_)
  cases hq1 : xs_node I nn id with
  | none =>
    simp only [hq1, Option.map_none, va_rf]
    refine lv_astore_nN (pc := 5) (lv' := [(2, .null), (0, .ref (ad 0 0)), (1, .int id)]) hx hb dX3_memberWith_5 rfl hl (by decide) rfl (fun ls hl => ?_)
    refine lv_aload_nN (pc := 6) hx hb dX3_memberWith_6 rfl (lv_at hl 0 rfl) ?_
    refine lv_ifnullN (pc := 7) (tgt := 21) hx hb dX3_memberWith_7 (by decide) ?_
    refine lv_null (pc := 21) hx hb dX3_memberWith_21 ?_
    exact hret _ _ _ _ _ _ _ _ (by simp [nb_I, xs_memb, va_rf, hq1]) rfl rfl rfl hM dX3_memberWith_22
  | some i2 =>
    simp only [hq1, Option.map_some, va_rf]
    have hq1l := xs_node_lt hq1
    refine lv_astore_n (pc := 5) (lv' := [(2, .ref (ad 5 i2)), (0, .ref (ad 0 0)), (1, .int id)]) hx hb dX3_memberWith_5 rfl hl (by decide) rfl (fun ls hl => ?_)
    refine lv_aload_n (pc := 6) hx hb dX3_memberWith_6 rfl (lv_at hl 0 rfl) ?_
    refine lv_ifnull (pc := 7) hx hb dX3_memberWith_7 ?_
    refine lv_aload_n (pc := 10) hx hb dX3_memberWith_10 rfl (lv_at hl 0 rfl) ?_
    refine nf_calli (pc := 11) (va_runV (As := []) (rest := []) hC.1 (ct_X1_isMember (i := i2) (by first | assumption | omega)) (cwV 0 hC.1.2.2.2.2 (gd_V wM_X3_128 wi_X1_isMember wsel_X1_isMember wini_X1 wcode_X1_isMember) rfl rfl rfl (by decide +kernel) ⟨by decide, by decide⟩) (nf_preV hC hM (xS_5 (by first | assumption | omega)) rfl) rfl rfl hl.1 rfl (lv_room (Nat.le_of_ble_eq_true rfl)) dX3_memberWith_11 ⟨Nat.le_refl _, Nat.le_refl _⟩) hM (fun H locs hM => ?_)
    refine lv_if_eq (pc := 14) (tgt := 21) hx hb dX3_memberWith_14 (by decide) (fun h3 => ?_) (fun h3 => ?_)
    · have h3 := nb_0 h3
      refine lv_null (pc := 21) hx hb dX3_memberWith_21 ?_
      exact hret _ _ _ _ _ _ _ _ (by simp [nb_I, xs_memb, va_rf, hq1, h3]) rfl rfl rfl hM dX3_memberWith_22
    · have h3 := nb_1 h3
      refine lv_aload_n (pc := 17) hx hb dX3_memberWith_17 rfl (lv_at hl 0 rfl) ?_
      refine lv_goto (pc := 18) (tgt := 22) hx hb dX3_memberWith_18 (by decide) ?_
      exact hret _ _ _ _ _ _ _ _ (by simp [nb_I, xs_memb, va_rf, hq1, h3]) rfl rfl rfl hM dX3_memberWith_22
end XM
end
section
/-! firstUpFrom, firstDownFrom. -/
section XF
variable {l : Launch} {D : va_G} {cs : Nat → ClassId} {Bs nn : Nat} {ad : nf_A} {I : nf_I} {J : nf_J} {mp : Nat → Nat}
set_option maxHeartbeats 4000000 in
set_option maxRecDepth 100000 in
theorem ct_X3_firstUpFrom {st : Int32} (hn : I 0 0 1 = nI nn) (hnn : nn ≤ 12) : nf_Ti l yX3_firstUpFrom wsX3_firstUpFrom 1 21 D vwCl (xT cs) Bs (xS cs nn) ad [.ref (ad 0 0), .int st] I J (xP nn mp) (xs_fu I st nn 0 (-1)) I J (xP nn mp) := by
  refine nf_enteri (cc := cX3_firstUpFrom) (maxL := 5) (by decide) rfl (Nat.le_of_ble_eq_true rfl) ?_
  intro p e s m below meth c ls Q hC hM hl hret
  have hx := hC.1.1
  have hb := hC.1.2.1
  have hl : lv_has ls 5 [(0, .ref (ad 0 0)), (1, .int st)] := hl
  have hinX1 : ∀ w ∈ u_ws RX1 TX1 7, w ∈ wsX3_firstUpFrom := fun w h => List.mem_cons_of_mem _ (inX1 w h)
  have hinX3 : ∀ w ∈ u_ws RX3 TX3 5, w ∈ wsX3_firstUpFrom := fun w h => List.mem_cons_of_mem _ (inX3 w h)
  refine lv_iconst (pc := 0) (v := -1) hx hb dX3_firstUpFrom_0 (by decide) ?_
  refine lv_istore_n (pc := 1) (lv' := [(2, .int (-1)), (0, .ref (ad 0 0)), (1, .int st)]) hx hb dX3_firstUpFrom_1 rfl hl (by decide) rfl (fun ls hl => ?_)
  refine lv_iconst (pc := 2) (v := 0) hx hb dX3_firstUpFrom_2 (by decide) ?_
  refine lv_istore_n (pc := 3) (lv' := [(3, .int 0), (2, .int (-1)), (0, .ref (ad 0 0)), (1, .int st)]) hx hb dX3_firstUpFrom_3 rfl hl (by decide) rfl (fun ls hl => ?_)
  have loop4 : ∀ (n : Nat) (j : Nat) (f : Int32) (ls : Array Slot) (H : Heap) (locs : List Loc), nn - j < n → j ≤ nn → xs_fu I st nn 0 (-1) = xs_fu I st (nn - j) j f → nf_M D vwCl Bs (xS cs nn) ad I J (xP nn mp) s.heap H locs → lv_has ls 5 [(3, .int (nI j)), (2, .int f), (0, .ref (ad 0 0)), (1, .int st)] → W p l e (nf_Rm 1 21) s m ([.ref (ad 0 0), .int st] : List Value).toArray below meth c H locs 0 0 Q (F0 m 4 ls []) := by
    intro n
    induction n with
    | zero => exact fun _ _ _ _ _ hmz => absurd hmz (Nat.not_lt_zero _)
    | succ n ihloop4 =>
      intro j f ls H locs hmz hjn hf hM hl
      refine lv_iload_n (pc := 4) hx hb dX3_firstUpFrom_4 rfl (lv_at hl 0 rfl) ?_
      refine lv_aload_n (pc := 5) hx hb dX3_firstUpFrom_5 rfl (lv_at hl 2 rfl) ?_
      refine nf_geti (pc := 6) hC hinX3 hM rfl rfl 1 (by decide) (List.mem_cons_of_mem _ wF_X3_15) rfl dX3_firstUpFrom_6 ?_
      refine lv_icmp_ge (pc := 9) (tgt := 67) hx hb dX3_firstUpFrom_9 (by decide) (fun hh => ?_) (fun hh => ?_)
      · have hj1 : nn ≤ j := (nI_leI (by omega) (by omega)).mp (by rw [hn] at hh; exact hh)
        refine lv_iload_n (pc := 67) hx hb dX3_firstUpFrom_67 rfl (lv_at hl 1 rfl) ?_
        exact hret _ _ _ _ _ _ _ _ (by rw [hf, show nn - j = 0 by omega]; rfl) rfl rfl rfl hM dX3_firstUpFrom_68
      · have hj1 : j < nn := Nat.lt_of_not_le (fun z => hh (by rw [hn]; exact (nI_leI (by omega) (by omega)).mpr z))
        refine lv_aload_n (pc := 12) hx hb dX3_firstUpFrom_12 rfl (lv_at hl 2 rfl) ?_
        refine nf_getr (pc := 13) hC hinX3 hM rfl rfl 0 (by decide) (List.mem_cons_of_mem _ wF_X3_11) rfl dX3_firstUpFrom_13 ?_
        refine lv_iload_n (pc := 16) hx hb dX3_firstUpFrom_16 rfl (lv_at hl 0 rfl) ?_
        refine nf_aald (pc := 17) hC hM 2 rfl rfl j rfl (by omega) (by decide) (xP_1 (by first | assumption | omega)) dX3_firstUpFrom_17 ?_
        refine nf_geti (pc := 18) hC hinX1 hM (xS_5 (by first | assumption | omega)) rfl 0 (by decide) (List.mem_cons_of_mem _ wF_X3_135) rfl dX3_firstUpFrom_18 ?_
        refine lv_istore (pc := 21) (lv' := [(4, .int (I 5 j 0)), (3, .int (nI j)), (2, .int f), (0, .ref (ad 0 0)), (1, .int st)]) hx hb dX3_firstUpFrom_21 hl (by decide) rfl (fun ls hl => ?_)
        refine lv_aload_n (pc := 23) hx hb dX3_firstUpFrom_23 rfl (lv_at hl 3 rfl) ?_
        refine nf_getr (pc := 24) hC hinX3 hM rfl rfl 0 (by decide) (List.mem_cons_of_mem _ wF_X3_11) rfl dX3_firstUpFrom_24 ?_
        refine lv_iload_n (pc := 27) hx hb dX3_firstUpFrom_27 rfl (lv_at hl 1 rfl) ?_
        refine nf_aald (pc := 28) hC hM 2 rfl rfl j rfl (by omega) (by decide) (xP_1 (by first | assumption | omega)) dX3_firstUpFrom_28 ?_
        refine nf_calli (pc := 29) (va_runV (As := []) (rest := []) hC.1 (ct_X1_isMember (i := j) (by first | assumption | omega)) (cwV 0 hC.1.2.2.2.2 (gd_V wM_X3_128 wi_X1_isMember wsel_X1_isMember wini_X1 wcode_X1_isMember) rfl rfl rfl (by decide +kernel) ⟨by decide, by decide⟩) (nf_preV hC hM (xS_5 (by first | assumption | omega)) rfl) rfl rfl hl.1 rfl (lv_room (Nat.le_of_ble_eq_true rfl)) dX3_firstUpFrom_29 ⟨Nat.le_refl _, Nat.le_refl _⟩) hM (fun H locs hM => ?_)
        refine lv_if_eq (pc := 32) (tgt := 61) hx hb dX3_firstUpFrom_32 (by decide) (fun h2 => ?_) (fun h2 => ?_)
        · have h2 := nb_0 h2
          refine lv_iinc (pc := 61) (k := 1) (v := nI (j + 1)) (lv' := [(3, .int (nI (j + 1))), (4, .int (I 5 j 0)), (2, .int f), (0, .ref (ad 0 0)), (1, .int st)]) hx hb dX3_firstUpFrom_61 hl rfl (nI_1 _) (by decide) rfl (fun ls hl => ?_)
          refine lv_goto (pc := 64) (tgt := 4) hx hb dX3_firstUpFrom_64 (by decide) ?_
          exact ihloop4 (j + 1) f ls _ _ (by omega) (by omega) (by rw [hf, show nn - j = (nn - (j + 1)) + 1 by omega, xs_fu]; congr 1; simp [h2]) hM (lv_sub hl [0, 2, 3, 4] rfl)
        · have h2 := nb_1 h2
          refine lv_iload_n (pc := 35) hx hb dX3_firstUpFrom_35 rfl (lv_at hl 2 rfl) ?_
          refine lv_iconst (pc := 36) (v := -1) hx hb dX3_firstUpFrom_36 (by decide) ?_
          refine lv_icmp_eq (pc := 37) (tgt := 58) hx hb dX3_firstUpFrom_37 (by decide) (fun h3 => ?_) (fun h3 => ?_)
          · skip
            refine lv_iload (pc := 58) hx hb dX3_firstUpFrom_58 (lv_at hl 0 rfl) ?_
            refine lv_istore_n (pc := 60) (lv' := [(2, .int (I 5 j 0)), (4, .int (I 5 j 0)), (3, .int (nI j)), (0, .ref (ad 0 0)), (1, .int st)]) hx hb dX3_firstUpFrom_60 rfl hl (by decide) rfl (fun ls hl => ?_)
            refine lv_iinc (pc := 61) (k := 2) (v := nI (j + 1)) (lv' := [(3, .int (nI (j + 1))), (2, .int (I 5 j 0)), (4, .int (I 5 j 0)), (0, .ref (ad 0 0)), (1, .int st)]) hx hb dX3_firstUpFrom_61 hl rfl (nI_1 _) (by decide) rfl (fun ls hl => ?_)
            refine lv_goto (pc := 64) (tgt := 4) hx hb dX3_firstUpFrom_64 (by decide) ?_
            exact ihloop4 (j + 1) (I 5 j 0) ls _ _ (by omega) (by omega) (by rw [hf, show nn - j = (nn - (j + 1)) + 1 by omega, xs_fu]; congr 1; simp [h2, h3]) hM (lv_sub hl [0, 1, 3, 4] rfl)
          · skip
            refine lv_iload_n (pc := 40) hx hb dX3_firstUpFrom_40 rfl (lv_at hl 4 rfl) ?_
            refine lv_iconst (pc := 41) (v := 1) hx hb dX3_firstUpFrom_41 (by decide) ?_
            refine lv_isub (pc := 42) hx hb dX3_firstUpFrom_42 ?_
            refine lv_iload (pc := 43) hx hb dX3_firstUpFrom_43 (lv_at hl 0 rfl) ?_
            refine nf_calli (pc := 45) (va_runS (As := [.int (st - 1), .int (I 5 j 0)]) (rest := []) hC.1 (ct_X3_stepsUp) (cwS 2 hC.1.2.2.2.2 (gd_S wM_X3_138 wst_X3_stepsUp wini_X3 wcode_X3_stepsUp) rfl rfl rfl (by decide +kernel) ⟨by decide, by decide⟩) (nf_preS hC hM) rfl rfl hl.1 rfl (lv_room (Nat.le_of_ble_eq_true rfl)) dX3_firstUpFrom_45 ⟨Nat.le_refl _, Nat.le_refl _⟩) hM (fun H locs hM => ?_)
            refine lv_iload_n (pc := 48) hx hb dX3_firstUpFrom_48 rfl (lv_at hl 4 rfl) ?_
            refine lv_iconst (pc := 49) (v := 1) hx hb dX3_firstUpFrom_49 (by decide) ?_
            refine lv_isub (pc := 50) hx hb dX3_firstUpFrom_50 ?_
            refine lv_iload_n (pc := 51) hx hb dX3_firstUpFrom_51 rfl (lv_at hl 2 rfl) ?_
            refine nf_calli (pc := 52) (va_runS (As := [.int (st - 1), .int f]) (rest := [.int (xs_up (st - 1) (I 5 j 0))]) hC.1 (ct_X3_stepsUp) (cwS 2 hC.1.2.2.2.2 (gd_S wM_X3_138 wst_X3_stepsUp wini_X3 wcode_X3_stepsUp) rfl rfl rfl (by decide +kernel) ⟨by decide, by decide⟩) (nf_preS hC hM) rfl rfl hl.1 rfl (lv_room (Nat.le_of_ble_eq_true rfl)) dX3_firstUpFrom_52 ⟨Nat.le_refl _, Nat.le_refl _⟩) hM (fun H locs hM => ?_)
            refine lv_icmp_ge (pc := 55) (tgt := 61) hx hb dX3_firstUpFrom_55 (by decide) (fun h4 => ?_) (fun h4 => ?_)
            · skip
              refine lv_iinc (pc := 61) (k := 1) (v := nI (j + 1)) (lv' := [(3, .int (nI (j + 1))), (4, .int (I 5 j 0)), (2, .int f), (0, .ref (ad 0 0)), (1, .int st)]) hx hb dX3_firstUpFrom_61 hl rfl (nI_1 _) (by decide) rfl (fun ls hl => ?_)
              refine lv_goto (pc := 64) (tgt := 4) hx hb dX3_firstUpFrom_64 (by decide) ?_
              exact ihloop4 (j + 1) f ls _ _ (by omega) (by omega) (by rw [hf, show nn - j = (nn - (j + 1)) + 1 by omega, xs_fu]; congr 1; simp [h2, h3, h4]) hM (lv_sub hl [0, 2, 3, 4] rfl)
            · skip
              refine lv_iload (pc := 58) hx hb dX3_firstUpFrom_58 (lv_at hl 0 rfl) ?_
              refine lv_istore_n (pc := 60) (lv' := [(2, .int (I 5 j 0)), (4, .int (I 5 j 0)), (3, .int (nI j)), (0, .ref (ad 0 0)), (1, .int st)]) hx hb dX3_firstUpFrom_60 rfl hl (by decide) rfl (fun ls hl => ?_)
              refine lv_iinc (pc := 61) (k := 2) (v := nI (j + 1)) (lv' := [(3, .int (nI (j + 1))), (2, .int (I 5 j 0)), (4, .int (I 5 j 0)), (0, .ref (ad 0 0)), (1, .int st)]) hx hb dX3_firstUpFrom_61 hl rfl (nI_1 _) (by decide) rfl (fun ls hl => ?_)
              refine lv_goto (pc := 64) (tgt := 4) hx hb dX3_firstUpFrom_64 (by decide) ?_
              exact ihloop4 (j + 1) (I 5 j 0) ls _ _ (by omega) (by omega) (by rw [hf, show nn - j = (nn - (j + 1)) + 1 by omega, xs_fu]; congr 1; simp [h2, h3, h4]) hM (lv_sub hl [0, 1, 3, 4] rfl)
  exact loop4 _ 0 (-1) ls _ _ (Nat.lt_succ_self _) (Nat.zero_le _) rfl hM hl
set_option maxHeartbeats 4000000 in
set_option maxRecDepth 100000 in
theorem ct_X3_firstDownFrom {st : Int32} (hn : I 0 0 1 = nI nn) (hnn : nn ≤ 12) : nf_Ti l yX3_firstDownFrom wsX3_firstDownFrom 1 21 D vwCl (xT cs) Bs (xS cs nn) ad [.ref (ad 0 0), .int st] I J (xP nn mp) (xs_fd I st nn 0 (-1)) I J (xP nn mp) := by
  refine nf_enteri (cc := cX3_firstDownFrom) (maxL := 5) (by decide) rfl (Nat.le_of_ble_eq_true rfl) ?_
  intro p e s m below meth c ls Q hC hM hl hret
  have hx := hC.1.1
  have hb := hC.1.2.1
  have hl : lv_has ls 5 [(0, .ref (ad 0 0)), (1, .int st)] := hl
  have hinX1 : ∀ w ∈ u_ws RX1 TX1 7, w ∈ wsX3_firstDownFrom := fun w h => List.mem_cons_of_mem _ (inX1 w h)
  have hinX3 : ∀ w ∈ u_ws RX3 TX3 5, w ∈ wsX3_firstDownFrom := fun w h => List.mem_cons_of_mem _ (inX3 w h)
  refine lv_iconst (pc := 0) (v := -1) hx hb dX3_firstDownFrom_0 (by decide) ?_
  refine lv_istore_n (pc := 1) (lv' := [(2, .int (-1)), (0, .ref (ad 0 0)), (1, .int st)]) hx hb dX3_firstDownFrom_1 rfl hl (by decide) rfl (fun ls hl => ?_)
  refine lv_iconst (pc := 2) (v := 0) hx hb dX3_firstDownFrom_2 (by decide) ?_
  refine lv_istore_n (pc := 3) (lv' := [(3, .int 0), (2, .int (-1)), (0, .ref (ad 0 0)), (1, .int st)]) hx hb dX3_firstDownFrom_3 rfl hl (by decide) rfl (fun ls hl => ?_)
  have loop4 : ∀ (n : Nat) (j : Nat) (f : Int32) (ls : Array Slot) (H : Heap) (locs : List Loc), nn - j < n → j ≤ nn → xs_fd I st nn 0 (-1) = xs_fd I st (nn - j) j f → nf_M D vwCl Bs (xS cs nn) ad I J (xP nn mp) s.heap H locs → lv_has ls 5 [(3, .int (nI j)), (2, .int f), (0, .ref (ad 0 0)), (1, .int st)] → W p l e (nf_Rm 1 21) s m ([.ref (ad 0 0), .int st] : List Value).toArray below meth c H locs 0 0 Q (F0 m 4 ls []) := by
    intro n
    induction n with
    | zero => exact fun _ _ _ _ _ hmz => absurd hmz (Nat.not_lt_zero _)
    | succ n ihloop4 =>
      intro j f ls H locs hmz hjn hf hM hl
      refine lv_iload_n (pc := 4) hx hb dX3_firstDownFrom_4 rfl (lv_at hl 0 rfl) ?_
      refine lv_aload_n (pc := 5) hx hb dX3_firstDownFrom_5 rfl (lv_at hl 2 rfl) ?_
      refine nf_geti (pc := 6) hC hinX3 hM rfl rfl 1 (by decide) (List.mem_cons_of_mem _ wF_X3_15) rfl dX3_firstDownFrom_6 ?_
      refine lv_icmp_ge (pc := 9) (tgt := 67) hx hb dX3_firstDownFrom_9 (by decide) (fun hh => ?_) (fun hh => ?_)
      · have hj1 : nn ≤ j := (nI_leI (by omega) (by omega)).mp (by rw [hn] at hh; exact hh)
        refine lv_iload_n (pc := 67) hx hb dX3_firstDownFrom_67 rfl (lv_at hl 1 rfl) ?_
        exact hret _ _ _ _ _ _ _ _ (by rw [hf, show nn - j = 0 by omega]; rfl) rfl rfl rfl hM dX3_firstDownFrom_68
      · have hj1 : j < nn := Nat.lt_of_not_le (fun z => hh (by rw [hn]; exact (nI_leI (by omega) (by omega)).mpr z))
        refine lv_aload_n (pc := 12) hx hb dX3_firstDownFrom_12 rfl (lv_at hl 2 rfl) ?_
        refine nf_getr (pc := 13) hC hinX3 hM rfl rfl 0 (by decide) (List.mem_cons_of_mem _ wF_X3_11) rfl dX3_firstDownFrom_13 ?_
        refine lv_iload_n (pc := 16) hx hb dX3_firstDownFrom_16 rfl (lv_at hl 0 rfl) ?_
        refine nf_aald (pc := 17) hC hM 2 rfl rfl j rfl (by omega) (by decide) (xP_1 (by first | assumption | omega)) dX3_firstDownFrom_17 ?_
        refine nf_geti (pc := 18) hC hinX1 hM (xS_5 (by first | assumption | omega)) rfl 0 (by decide) (List.mem_cons_of_mem _ wF_X3_135) rfl dX3_firstDownFrom_18 ?_
        refine lv_istore (pc := 21) (lv' := [(4, .int (I 5 j 0)), (3, .int (nI j)), (2, .int f), (0, .ref (ad 0 0)), (1, .int st)]) hx hb dX3_firstDownFrom_21 hl (by decide) rfl (fun ls hl => ?_)
        refine lv_aload_n (pc := 23) hx hb dX3_firstDownFrom_23 rfl (lv_at hl 3 rfl) ?_
        refine nf_getr (pc := 24) hC hinX3 hM rfl rfl 0 (by decide) (List.mem_cons_of_mem _ wF_X3_11) rfl dX3_firstDownFrom_24 ?_
        refine lv_iload_n (pc := 27) hx hb dX3_firstDownFrom_27 rfl (lv_at hl 1 rfl) ?_
        refine nf_aald (pc := 28) hC hM 2 rfl rfl j rfl (by omega) (by decide) (xP_1 (by first | assumption | omega)) dX3_firstDownFrom_28 ?_
        refine nf_calli (pc := 29) (va_runV (As := []) (rest := []) hC.1 (ct_X1_isMember (i := j) (by first | assumption | omega)) (cwV 0 hC.1.2.2.2.2 (gd_V wM_X3_128 wi_X1_isMember wsel_X1_isMember wini_X1 wcode_X1_isMember) rfl rfl rfl (by decide +kernel) ⟨by decide, by decide⟩) (nf_preV hC hM (xS_5 (by first | assumption | omega)) rfl) rfl rfl hl.1 rfl (lv_room (Nat.le_of_ble_eq_true rfl)) dX3_firstDownFrom_29 ⟨Nat.le_refl _, Nat.le_refl _⟩) hM (fun H locs hM => ?_)
        refine lv_if_eq (pc := 32) (tgt := 61) hx hb dX3_firstDownFrom_32 (by decide) (fun h2 => ?_) (fun h2 => ?_)
        · have h2 := nb_0 h2
          refine lv_iinc (pc := 61) (k := 1) (v := nI (j + 1)) (lv' := [(3, .int (nI (j + 1))), (4, .int (I 5 j 0)), (2, .int f), (0, .ref (ad 0 0)), (1, .int st)]) hx hb dX3_firstDownFrom_61 hl rfl (nI_1 _) (by decide) rfl (fun ls hl => ?_)
          refine lv_goto (pc := 64) (tgt := 4) hx hb dX3_firstDownFrom_64 (by decide) ?_
          exact ihloop4 (j + 1) f ls _ _ (by omega) (by omega) (by rw [hf, show nn - j = (nn - (j + 1)) + 1 by omega, xs_fd]; congr 1; simp [h2]) hM (lv_sub hl [0, 2, 3, 4] rfl)
        · have h2 := nb_1 h2
          refine lv_iload_n (pc := 35) hx hb dX3_firstDownFrom_35 rfl (lv_at hl 2 rfl) ?_
          refine lv_iconst (pc := 36) (v := -1) hx hb dX3_firstDownFrom_36 (by decide) ?_
          refine lv_icmp_eq (pc := 37) (tgt := 58) hx hb dX3_firstDownFrom_37 (by decide) (fun h3 => ?_) (fun h3 => ?_)
          · skip
            refine lv_iload (pc := 58) hx hb dX3_firstDownFrom_58 (lv_at hl 0 rfl) ?_
            refine lv_istore_n (pc := 60) (lv' := [(2, .int (I 5 j 0)), (4, .int (I 5 j 0)), (3, .int (nI j)), (0, .ref (ad 0 0)), (1, .int st)]) hx hb dX3_firstDownFrom_60 rfl hl (by decide) rfl (fun ls hl => ?_)
            refine lv_iinc (pc := 61) (k := 2) (v := nI (j + 1)) (lv' := [(3, .int (nI (j + 1))), (2, .int (I 5 j 0)), (4, .int (I 5 j 0)), (0, .ref (ad 0 0)), (1, .int st)]) hx hb dX3_firstDownFrom_61 hl rfl (nI_1 _) (by decide) rfl (fun ls hl => ?_)
            refine lv_goto (pc := 64) (tgt := 4) hx hb dX3_firstDownFrom_64 (by decide) ?_
            exact ihloop4 (j + 1) (I 5 j 0) ls _ _ (by omega) (by omega) (by rw [hf, show nn - j = (nn - (j + 1)) + 1 by omega, xs_fd]; congr 1; simp [h2, h3]) hM (lv_sub hl [0, 1, 3, 4] rfl)
          · skip
            refine lv_iload (pc := 40) hx hb dX3_firstDownFrom_40 (lv_at hl 0 rfl) ?_
            refine lv_iload_n (pc := 42) hx hb dX3_firstDownFrom_42 rfl (lv_at hl 4 rfl) ?_
            refine lv_iconst (pc := 43) (v := 1) hx hb dX3_firstDownFrom_43 (by decide) ?_
            refine lv_iadd (pc := 44) hx hb dX3_firstDownFrom_44 ?_
            refine nf_calli (pc := 45) (va_runS (As := [.int (I 5 j 0), .int (st + 1)]) (rest := []) hC.1 (ct_X3_stepsUp) (cwS 2 hC.1.2.2.2.2 (gd_S wM_X3_138 wst_X3_stepsUp wini_X3 wcode_X3_stepsUp) rfl rfl rfl (by decide +kernel) ⟨by decide, by decide⟩) (nf_preS hC hM) rfl rfl hl.1 rfl (lv_room (Nat.le_of_ble_eq_true rfl)) dX3_firstDownFrom_45 ⟨Nat.le_refl _, Nat.le_refl _⟩) hM (fun H locs hM => ?_)
            refine lv_iload_n (pc := 48) hx hb dX3_firstDownFrom_48 rfl (lv_at hl 2 rfl) ?_
            refine lv_iload_n (pc := 49) hx hb dX3_firstDownFrom_49 rfl (lv_at hl 4 rfl) ?_
            refine lv_iconst (pc := 50) (v := 1) hx hb dX3_firstDownFrom_50 (by decide) ?_
            refine lv_iadd (pc := 51) hx hb dX3_firstDownFrom_51 ?_
            refine nf_calli (pc := 52) (va_runS (As := [.int f, .int (st + 1)]) (rest := [.int (xs_up (I 5 j 0) (st + 1))]) hC.1 (ct_X3_stepsUp) (cwS 2 hC.1.2.2.2.2 (gd_S wM_X3_138 wst_X3_stepsUp wini_X3 wcode_X3_stepsUp) rfl rfl rfl (by decide +kernel) ⟨by decide, by decide⟩) (nf_preS hC hM) rfl rfl hl.1 rfl (lv_room (Nat.le_of_ble_eq_true rfl)) dX3_firstDownFrom_52 ⟨Nat.le_refl _, Nat.le_refl _⟩) hM (fun H locs hM => ?_)
            refine lv_icmp_ge (pc := 55) (tgt := 61) hx hb dX3_firstDownFrom_55 (by decide) (fun h4 => ?_) (fun h4 => ?_)
            · skip
              refine lv_iinc (pc := 61) (k := 1) (v := nI (j + 1)) (lv' := [(3, .int (nI (j + 1))), (4, .int (I 5 j 0)), (2, .int f), (0, .ref (ad 0 0)), (1, .int st)]) hx hb dX3_firstDownFrom_61 hl rfl (nI_1 _) (by decide) rfl (fun ls hl => ?_)
              refine lv_goto (pc := 64) (tgt := 4) hx hb dX3_firstDownFrom_64 (by decide) ?_
              exact ihloop4 (j + 1) f ls _ _ (by omega) (by omega) (by rw [hf, show nn - j = (nn - (j + 1)) + 1 by omega, xs_fd]; congr 1; simp [h2, h3, h4]) hM (lv_sub hl [0, 2, 3, 4] rfl)
            · skip
              refine lv_iload (pc := 58) hx hb dX3_firstDownFrom_58 (lv_at hl 0 rfl) ?_
              refine lv_istore_n (pc := 60) (lv' := [(2, .int (I 5 j 0)), (4, .int (I 5 j 0)), (3, .int (nI j)), (0, .ref (ad 0 0)), (1, .int st)]) hx hb dX3_firstDownFrom_60 rfl hl (by decide) rfl (fun ls hl => ?_)
              refine lv_iinc (pc := 61) (k := 2) (v := nI (j + 1)) (lv' := [(3, .int (nI (j + 1))), (2, .int (I 5 j 0)), (4, .int (I 5 j 0)), (0, .ref (ad 0 0)), (1, .int st)]) hx hb dX3_firstDownFrom_61 hl rfl (nI_1 _) (by decide) rfl (fun ls hl => ?_)
              refine lv_goto (pc := 64) (tgt := 4) hx hb dX3_firstDownFrom_64 (by decide) ?_
              exact ihloop4 (j + 1) (I 5 j 0) ls _ _ (by omega) (by omega) (by rw [hf, show nn - j = (nn - (j + 1)) + 1 by omega, xs_fd]; congr 1; simp [h2, h3, h4]) hM (lv_sub hl [0, 1, 3, 4] rfl)
  exact loop4 _ 0 (-1) ls _ _ (Nat.lt_succ_self _) (Nat.zero_le _) rfl hM hl
end XF
end
section
/-! wrongPointers, wrong. -/
section XW
variable {l : Launch} {D : va_G} {cs : Nat → ClassId} {Bs nn : Nat} {ad : nf_A} {I : nf_I} {J : nf_J} {mp : Nat → Nat}
set_option maxHeartbeats 4000000 in
set_option maxRecDepth 100000 in
theorem ct_X3_wrongPointers {i : Nat} (hn : I 0 0 1 = nI nn) (hnn : nn ≤ 12) (hi : i < nn) : nf_Ti l yX3_wrongPointers wsX3_wrongPointers 2 45 D vwCl (xT cs) Bs (xS cs nn) ad [.ref (ad 0 0), .ref (ad 5 i)] I J (xP nn mp) (xs_wp I nn i) I J (xP nn mp) := by
  refine nf_enteri (cc := cX3_wrongPointers) (maxL := 4) (by decide) rfl (Nat.le_of_ble_eq_true rfl) ?_
  intro p e s m below meth c ls Q hC hM hl hret
  have hx := hC.1.1
  have hb := hC.1.2.1
  have hl : lv_has ls 4 [(0, .ref (ad 0 0)), (1, .ref (ad 5 i))] := hl
  have hinX1 : ∀ w ∈ u_ws RX1 TX1 7, w ∈ wsX3_wrongPointers := fun w h => List.mem_cons_of_mem _ (inX1 w h)
  refine lv_iconst (pc := 0) (v := 0) hx hb dX3_wrongPointers_0 (by decide) ?_
  refine lv_istore_n (pc := 1) (lv' := [(2, .int 0), (0, .ref (ad 0 0)), (1, .ref (ad 5 i))]) hx hb dX3_wrongPointers_1 rfl hl (by decide) rfl (fun ls hl => ?_)
  refine lv_aload_n (pc := 2) hx hb dX3_wrongPointers_2 rfl (lv_at hl 2 rfl) ?_
  refine nf_geti (pc := 3) hC hinX1 hM (xS_5 (by first | assumption | omega)) rfl 1 (by decide) (List.mem_cons_of_mem _ wF_X3_41) rfl dX3_wrongPointers_3 ?_
  refine lv_aload_n (pc := 6) hx hb dX3_wrongPointers_6 rfl (lv_at hl 1 rfl) ?_
  refine lv_aload_n (pc := 7) hx hb dX3_wrongPointers_7 rfl (lv_at hl 2 rfl) ?_
  refine nf_geti (pc := 8) hC hinX1 hM (xS_5 (by first | assumption | omega)) rfl 0 (by decide) (List.mem_cons_of_mem _ wF_X3_135) rfl dX3_wrongPointers_8 ?_
  refine lv_iconst (pc := 11) (v := 1) hx hb dX3_wrongPointers_11 (by decide) ?_
  refine lv_iadd (pc := 12) hx hb dX3_wrongPointers_12 ?_
  refine nf_calli (pc := 13) (va_runV (As := [.int ((I 5 i 0) + 1)]) (rest := [.int (I 5 i 1)]) hC.1 (ct_X3_firstUpFrom (st := ((I 5 i 0) + 1)) hn hnn) (cwV 1 hC.1.2.2.2.2 (gd_V wM_X3_125 wi_X3_firstUpFrom wsel_X3_firstUpFrom wini_X3 wcode_X3_firstUpFrom) rfl rfl rfl (by decide +kernel) ⟨by decide, by decide⟩) (nf_preV hC hM rfl rfl) rfl rfl hl.1 rfl (lv_room (Nat.le_of_ble_eq_true rfl)) dX3_wrongPointers_13 ⟨Nat.le_refl _, Nat.le_refl _⟩) hM (fun H locs hM => ?_)
  refine lv_icmp_eq (pc := 16) (tgt := 22) hx hb dX3_wrongPointers_16 (by decide) (fun h1 => ?_) (fun h1 => ?_)
  · skip
    refine lv_aload_n (pc := 22) hx hb dX3_wrongPointers_22 rfl (lv_at hl 2 rfl) ?_
    refine nf_geti (pc := 23) hC hinX1 hM (xS_5 (by first | assumption | omega)) rfl 2 (by decide) (List.mem_cons_of_mem _ wF_X3_101) rfl dX3_wrongPointers_23 ?_
    refine lv_aload_n (pc := 26) hx hb dX3_wrongPointers_26 rfl (lv_at hl 1 rfl) ?_
    refine lv_aload_n (pc := 27) hx hb dX3_wrongPointers_27 rfl (lv_at hl 2 rfl) ?_
    refine nf_geti (pc := 28) hC hinX1 hM (xS_5 (by first | assumption | omega)) rfl 0 (by decide) (List.mem_cons_of_mem _ wF_X3_135) rfl dX3_wrongPointers_28 ?_
    refine lv_iconst (pc := 31) (v := 1) hx hb dX3_wrongPointers_31 (by decide) ?_
    refine lv_isub (pc := 32) hx hb dX3_wrongPointers_32 ?_
    refine nf_calli (pc := 33) (va_runV (As := [.int ((I 5 i 0) - 1)]) (rest := [.int (I 5 i 2)]) hC.1 (ct_X3_firstDownFrom (st := ((I 5 i 0) - 1)) hn hnn) (cwV 1 hC.1.2.2.2.2 (gd_V wM_X3_144 wi_X3_firstDownFrom wsel_X3_firstDownFrom wini_X3 wcode_X3_firstDownFrom) rfl rfl rfl (by decide +kernel) ⟨by decide, by decide⟩) (nf_preV hC hM rfl rfl) rfl rfl hl.1 rfl (lv_room (Nat.le_of_ble_eq_true rfl)) dX3_wrongPointers_33 ⟨Nat.le_refl _, Nat.le_refl _⟩) hM (fun H locs hM => ?_)
    refine lv_icmp_eq (pc := 36) (tgt := 42) hx hb dX3_wrongPointers_36 (by decide) (fun h2 => ?_) (fun h2 => ?_)
    · skip
      refine lv_iconst (pc := 42) (v := 0) hx hb dX3_wrongPointers_42 (by decide) ?_
      refine lv_istore_n (pc := 43) (lv' := [(3, .int 0), (2, .int 0), (0, .ref (ad 0 0)), (1, .ref (ad 5 i))]) hx hb dX3_wrongPointers_43 rfl hl (by decide) rfl (fun ls hl => ?_)
      have loop44 : ∀ (n : Nat) (j : Nat) (k : Int32) (ls : Array Slot) (H : Heap) (locs : List Loc), 8 - j < n → (j ≤ 8) → (xs_wp I nn i = xs_wf I nn i (8 - j) j k) → nf_M D vwCl Bs (xS cs nn) ad I J (xP nn mp) s.heap H locs → lv_has ls 4 [(3, .int (nI j)), (2, .int k), (0, .ref (ad 0 0)), (1, .ref (ad 5 i))] → W p l e (nf_Rm 2 45) s m ([.ref (ad 0 0), .ref (ad 5 i)] : List Value).toArray below meth c H locs 0 0 Q (F0 m 44 ls []) := by
        intro n
        induction n with
        | zero => exact fun _ _ _ _ _ hmz => absurd hmz (Nat.not_lt_zero _)
        | succ n ihloop44 =>
          intro j k ls H locs hmz hjn hf hM hl
          refine lv_iload_n (pc := 44) hx hb dX3_wrongPointers_44 rfl (lv_at hl 0 rfl) ?_
          refine lv_bipush (pc := 45) (v := nI 8) hx hb dX3_wrongPointers_45 (by decide) ?_
          refine lv_icmp_ge (pc := 47) (tgt := 80) hx hb dX3_wrongPointers_47 (by decide) (fun hh => ?_) (fun hh => ?_)
          · have hj3 : 8 ≤ j := (nI_leI (by omega) (by omega)).mp (by exact hh)
            refine lv_iload_n (pc := 80) hx hb dX3_wrongPointers_80 rfl (lv_at hl 1 rfl) ?_
            exact hret _ _ _ _ _ _ _ _ (by rw [hf, show 8 - j = 0 by omega]; rfl) rfl rfl rfl hM dX3_wrongPointers_81
          · have hj3 : j < 8 := Nat.lt_of_not_le (fun z => hh (by exact (nI_leI (by omega) (by omega)).mpr z))
            refine lv_aload_n (pc := 50) hx hb dX3_wrongPointers_50 rfl (lv_at hl 3 rfl) ?_
            refine nf_getr (pc := 51) hC hinX1 hM (xS_5 (by first | assumption | omega)) rfl 3 (by decide) (List.mem_cons_of_mem _ wF_X3_104) rfl dX3_wrongPointers_51 ?_
            refine lv_iload_n (pc := 54) hx hb dX3_wrongPointers_54 rfl (lv_at hl 0 rfl) ?_
            refine nf_iald (pc := 55) hC hM 0 (xS_6 (by first | assumption | omega)) rfl j rfl (by omega) (by decide) dX3_wrongPointers_55 ?_
            refine lv_aload_n (pc := 56) hx hb dX3_wrongPointers_56 rfl (lv_at hl 2 rfl) ?_
            refine lv_aload_n (pc := 57) hx hb dX3_wrongPointers_57 rfl (lv_at hl 3 rfl) ?_
            refine nf_geti (pc := 58) hC hinX1 hM (xS_5 (by first | assumption | omega)) rfl 0 (by decide) (List.mem_cons_of_mem _ wF_X3_135) rfl dX3_wrongPointers_58 ?_
            refine lv_iload_n (pc := 61) hx hb dX3_wrongPointers_61 rfl (lv_at hl 0 rfl) ?_
            refine nf_calli (pc := 62) (va_runS (As := [.int (I 5 i 0), .int (nI j)]) (rest := [.ref (ad 0 0), .int (I 6 i j)]) hC.1 (ct_X3_fingerStart) (cwS 2 hC.1.2.2.2.2 (gd_S wM_X3_70 wst_X3_fingerStart wini_X3 wcode_X3_fingerStart) rfl rfl rfl (by decide +kernel) ⟨by decide, by decide⟩) (nf_preS hC hM) rfl rfl hl.1 rfl (lv_room (Nat.le_of_ble_eq_true rfl)) dX3_wrongPointers_62 ⟨Nat.le_refl _, Nat.le_refl _⟩) hM (fun H locs hM => ?_)
            refine nf_calli (pc := 65) (va_runV (As := [.int (xs_fst (I 5 i 0) (nI j))]) (rest := [.int (I 6 i j)]) hC.1 (ct_X3_firstUpFrom (st := (xs_fst (I 5 i 0) (nI j))) hn hnn) (cwV 1 hC.1.2.2.2.2 (gd_V wM_X3_125 wi_X3_firstUpFrom wsel_X3_firstUpFrom wini_X3 wcode_X3_firstUpFrom) rfl rfl rfl (by decide +kernel) ⟨by decide, by decide⟩) (nf_preV hC hM rfl rfl) rfl rfl hl.1 rfl (lv_room (Nat.le_of_ble_eq_true rfl)) dX3_wrongPointers_65 ⟨Nat.le_refl _, Nat.le_refl _⟩) hM (fun H locs hM => ?_)
            refine lv_icmp_eq (pc := 68) (tgt := 74) hx hb dX3_wrongPointers_68 (by decide) (fun h4 => ?_) (fun h4 => ?_)
            · skip
              refine lv_iinc (pc := 74) (k := 0) (v := nI (j + 1)) (lv' := [(3, .int (nI (j + 1))), (2, .int k), (0, .ref (ad 0 0)), (1, .ref (ad 5 i))]) hx hb dX3_wrongPointers_74 hl rfl (nI_1 _) (by decide) rfl (fun ls hl => ?_)
              refine lv_goto (pc := 77) (tgt := 44) hx hb dX3_wrongPointers_77 (by decide) ?_
              exact ihloop44 (j + 1) k ls _ _ (by omega) (by omega) (by rw [hf, show 8 - j = (8 - (j + 1)) + 1 by omega, xs_wf]; congr 1; simp [h4]) hM hl
            · skip
              refine lv_iinc (pc := 71) (k := 1) (v := k + 1) (lv' := [(2, .int (k + 1)), (3, .int (nI j)), (0, .ref (ad 0 0)), (1, .ref (ad 5 i))]) hx hb dX3_wrongPointers_71 hl rfl rfl (by decide) rfl (fun ls hl => ?_)
              refine lv_iinc (pc := 74) (k := 1) (v := nI (j + 1)) (lv' := [(3, .int (nI (j + 1))), (2, .int (k + 1)), (0, .ref (ad 0 0)), (1, .ref (ad 5 i))]) hx hb dX3_wrongPointers_74 hl rfl (nI_1 _) (by decide) rfl (fun ls hl => ?_)
              refine lv_goto (pc := 77) (tgt := 44) hx hb dX3_wrongPointers_77 (by decide) ?_
              exact ihloop44 (j + 1) (k + 1) ls _ _ (by omega) (by omega) (by rw [hf, show 8 - j = (8 - (j + 1)) + 1 by omega, xs_wf]; congr 1; simp [h4]) hM hl
      exact loop44 _ 0 0 ls _ _ (Nat.lt_succ_self _) (Nat.zero_le _) (by simp [xs_wp, h1, h2]) hM hl
    · skip
      refine lv_iinc (pc := 39) (k := 0) (v := 0 + 1) (lv' := [(2, .int (0 + 1)), (0, .ref (ad 0 0)), (1, .ref (ad 5 i))]) hx hb dX3_wrongPointers_39 hl rfl rfl (by decide) rfl (fun ls hl => ?_)
      refine lv_iconst (pc := 42) (v := 0) hx hb dX3_wrongPointers_42 (by decide) ?_
      refine lv_istore_n (pc := 43) (lv' := [(3, .int 0), (2, .int (0 + 1)), (0, .ref (ad 0 0)), (1, .ref (ad 5 i))]) hx hb dX3_wrongPointers_43 rfl hl (by decide) rfl (fun ls hl => ?_)
      have loop44 : ∀ (n : Nat) (j : Nat) (k : Int32) (ls : Array Slot) (H : Heap) (locs : List Loc), 8 - j < n → (j ≤ 8) → (xs_wp I nn i = xs_wf I nn i (8 - j) j k) → nf_M D vwCl Bs (xS cs nn) ad I J (xP nn mp) s.heap H locs → lv_has ls 4 [(3, .int (nI j)), (2, .int k), (0, .ref (ad 0 0)), (1, .ref (ad 5 i))] → W p l e (nf_Rm 2 45) s m ([.ref (ad 0 0), .ref (ad 5 i)] : List Value).toArray below meth c H locs 0 0 Q (F0 m 44 ls []) := by
        intro n
        induction n with
        | zero => exact fun _ _ _ _ _ hmz => absurd hmz (Nat.not_lt_zero _)
        | succ n ihloop44 =>
          intro j k ls H locs hmz hjn hf hM hl
          refine lv_iload_n (pc := 44) hx hb dX3_wrongPointers_44 rfl (lv_at hl 0 rfl) ?_
          refine lv_bipush (pc := 45) (v := nI 8) hx hb dX3_wrongPointers_45 (by decide) ?_
          refine lv_icmp_ge (pc := 47) (tgt := 80) hx hb dX3_wrongPointers_47 (by decide) (fun hh => ?_) (fun hh => ?_)
          · have hj5 : 8 ≤ j := (nI_leI (by omega) (by omega)).mp (by exact hh)
            refine lv_iload_n (pc := 80) hx hb dX3_wrongPointers_80 rfl (lv_at hl 1 rfl) ?_
            exact hret _ _ _ _ _ _ _ _ (by rw [hf, show 8 - j = 0 by omega]; rfl) rfl rfl rfl hM dX3_wrongPointers_81
          · have hj5 : j < 8 := Nat.lt_of_not_le (fun z => hh (by exact (nI_leI (by omega) (by omega)).mpr z))
            refine lv_aload_n (pc := 50) hx hb dX3_wrongPointers_50 rfl (lv_at hl 3 rfl) ?_
            refine nf_getr (pc := 51) hC hinX1 hM (xS_5 (by first | assumption | omega)) rfl 3 (by decide) (List.mem_cons_of_mem _ wF_X3_104) rfl dX3_wrongPointers_51 ?_
            refine lv_iload_n (pc := 54) hx hb dX3_wrongPointers_54 rfl (lv_at hl 0 rfl) ?_
            refine nf_iald (pc := 55) hC hM 0 (xS_6 (by first | assumption | omega)) rfl j rfl (by omega) (by decide) dX3_wrongPointers_55 ?_
            refine lv_aload_n (pc := 56) hx hb dX3_wrongPointers_56 rfl (lv_at hl 2 rfl) ?_
            refine lv_aload_n (pc := 57) hx hb dX3_wrongPointers_57 rfl (lv_at hl 3 rfl) ?_
            refine nf_geti (pc := 58) hC hinX1 hM (xS_5 (by first | assumption | omega)) rfl 0 (by decide) (List.mem_cons_of_mem _ wF_X3_135) rfl dX3_wrongPointers_58 ?_
            refine lv_iload_n (pc := 61) hx hb dX3_wrongPointers_61 rfl (lv_at hl 0 rfl) ?_
            refine nf_calli (pc := 62) (va_runS (As := [.int (I 5 i 0), .int (nI j)]) (rest := [.ref (ad 0 0), .int (I 6 i j)]) hC.1 (ct_X3_fingerStart) (cwS 2 hC.1.2.2.2.2 (gd_S wM_X3_70 wst_X3_fingerStart wini_X3 wcode_X3_fingerStart) rfl rfl rfl (by decide +kernel) ⟨by decide, by decide⟩) (nf_preS hC hM) rfl rfl hl.1 rfl (lv_room (Nat.le_of_ble_eq_true rfl)) dX3_wrongPointers_62 ⟨Nat.le_refl _, Nat.le_refl _⟩) hM (fun H locs hM => ?_)
            refine nf_calli (pc := 65) (va_runV (As := [.int (xs_fst (I 5 i 0) (nI j))]) (rest := [.int (I 6 i j)]) hC.1 (ct_X3_firstUpFrom (st := (xs_fst (I 5 i 0) (nI j))) hn hnn) (cwV 1 hC.1.2.2.2.2 (gd_V wM_X3_125 wi_X3_firstUpFrom wsel_X3_firstUpFrom wini_X3 wcode_X3_firstUpFrom) rfl rfl rfl (by decide +kernel) ⟨by decide, by decide⟩) (nf_preV hC hM rfl rfl) rfl rfl hl.1 rfl (lv_room (Nat.le_of_ble_eq_true rfl)) dX3_wrongPointers_65 ⟨Nat.le_refl _, Nat.le_refl _⟩) hM (fun H locs hM => ?_)
            refine lv_icmp_eq (pc := 68) (tgt := 74) hx hb dX3_wrongPointers_68 (by decide) (fun h6 => ?_) (fun h6 => ?_)
            · skip
              refine lv_iinc (pc := 74) (k := 0) (v := nI (j + 1)) (lv' := [(3, .int (nI (j + 1))), (2, .int k), (0, .ref (ad 0 0)), (1, .ref (ad 5 i))]) hx hb dX3_wrongPointers_74 hl rfl (nI_1 _) (by decide) rfl (fun ls hl => ?_)
              refine lv_goto (pc := 77) (tgt := 44) hx hb dX3_wrongPointers_77 (by decide) ?_
              exact ihloop44 (j + 1) k ls _ _ (by omega) (by omega) (by rw [hf, show 8 - j = (8 - (j + 1)) + 1 by omega, xs_wf]; congr 1; simp [h6]) hM hl
            · skip
              refine lv_iinc (pc := 71) (k := 1) (v := k + 1) (lv' := [(2, .int (k + 1)), (3, .int (nI j)), (0, .ref (ad 0 0)), (1, .ref (ad 5 i))]) hx hb dX3_wrongPointers_71 hl rfl rfl (by decide) rfl (fun ls hl => ?_)
              refine lv_iinc (pc := 74) (k := 1) (v := nI (j + 1)) (lv' := [(3, .int (nI (j + 1))), (2, .int (k + 1)), (0, .ref (ad 0 0)), (1, .ref (ad 5 i))]) hx hb dX3_wrongPointers_74 hl rfl (nI_1 _) (by decide) rfl (fun ls hl => ?_)
              refine lv_goto (pc := 77) (tgt := 44) hx hb dX3_wrongPointers_77 (by decide) ?_
              exact ihloop44 (j + 1) (k + 1) ls _ _ (by omega) (by omega) (by rw [hf, show 8 - j = (8 - (j + 1)) + 1 by omega, xs_wf]; congr 1; simp [h6]) hM hl
      exact loop44 _ 0 (0 + 1) ls _ _ (Nat.lt_succ_self _) (Nat.zero_le _) (by simp [xs_wp, h1, h2]) hM hl
  · skip
    refine lv_iinc (pc := 19) (k := 0) (v := 0 + 1) (lv' := [(2, .int (0 + 1)), (0, .ref (ad 0 0)), (1, .ref (ad 5 i))]) hx hb dX3_wrongPointers_19 hl rfl rfl (by decide) rfl (fun ls hl => ?_)
    refine lv_aload_n (pc := 22) hx hb dX3_wrongPointers_22 rfl (lv_at hl 2 rfl) ?_
    refine nf_geti (pc := 23) hC hinX1 hM (xS_5 (by first | assumption | omega)) rfl 2 (by decide) (List.mem_cons_of_mem _ wF_X3_101) rfl dX3_wrongPointers_23 ?_
    refine lv_aload_n (pc := 26) hx hb dX3_wrongPointers_26 rfl (lv_at hl 1 rfl) ?_
    refine lv_aload_n (pc := 27) hx hb dX3_wrongPointers_27 rfl (lv_at hl 2 rfl) ?_
    refine nf_geti (pc := 28) hC hinX1 hM (xS_5 (by first | assumption | omega)) rfl 0 (by decide) (List.mem_cons_of_mem _ wF_X3_135) rfl dX3_wrongPointers_28 ?_
    refine lv_iconst (pc := 31) (v := 1) hx hb dX3_wrongPointers_31 (by decide) ?_
    refine lv_isub (pc := 32) hx hb dX3_wrongPointers_32 ?_
    refine nf_calli (pc := 33) (va_runV (As := [.int ((I 5 i 0) - 1)]) (rest := [.int (I 5 i 2)]) hC.1 (ct_X3_firstDownFrom (st := ((I 5 i 0) - 1)) hn hnn) (cwV 1 hC.1.2.2.2.2 (gd_V wM_X3_144 wi_X3_firstDownFrom wsel_X3_firstDownFrom wini_X3 wcode_X3_firstDownFrom) rfl rfl rfl (by decide +kernel) ⟨by decide, by decide⟩) (nf_preV hC hM rfl rfl) rfl rfl hl.1 rfl (lv_room (Nat.le_of_ble_eq_true rfl)) dX3_wrongPointers_33 ⟨Nat.le_refl _, Nat.le_refl _⟩) hM (fun H locs hM => ?_)
    refine lv_icmp_eq (pc := 36) (tgt := 42) hx hb dX3_wrongPointers_36 (by decide) (fun h7 => ?_) (fun h7 => ?_)
    · skip
      refine lv_iconst (pc := 42) (v := 0) hx hb dX3_wrongPointers_42 (by decide) ?_
      refine lv_istore_n (pc := 43) (lv' := [(3, .int 0), (2, .int (0 + 1)), (0, .ref (ad 0 0)), (1, .ref (ad 5 i))]) hx hb dX3_wrongPointers_43 rfl hl (by decide) rfl (fun ls hl => ?_)
      have loop44 : ∀ (n : Nat) (j : Nat) (k : Int32) (ls : Array Slot) (H : Heap) (locs : List Loc), 8 - j < n → (j ≤ 8) → (xs_wp I nn i = xs_wf I nn i (8 - j) j k) → nf_M D vwCl Bs (xS cs nn) ad I J (xP nn mp) s.heap H locs → lv_has ls 4 [(3, .int (nI j)), (2, .int k), (0, .ref (ad 0 0)), (1, .ref (ad 5 i))] → W p l e (nf_Rm 2 45) s m ([.ref (ad 0 0), .ref (ad 5 i)] : List Value).toArray below meth c H locs 0 0 Q (F0 m 44 ls []) := by
        intro n
        induction n with
        | zero => exact fun _ _ _ _ _ hmz => absurd hmz (Nat.not_lt_zero _)
        | succ n ihloop44 =>
          intro j k ls H locs hmz hjn hf hM hl
          refine lv_iload_n (pc := 44) hx hb dX3_wrongPointers_44 rfl (lv_at hl 0 rfl) ?_
          refine lv_bipush (pc := 45) (v := nI 8) hx hb dX3_wrongPointers_45 (by decide) ?_
          refine lv_icmp_ge (pc := 47) (tgt := 80) hx hb dX3_wrongPointers_47 (by decide) (fun hh => ?_) (fun hh => ?_)
          · have hj8 : 8 ≤ j := (nI_leI (by omega) (by omega)).mp (by exact hh)
            refine lv_iload_n (pc := 80) hx hb dX3_wrongPointers_80 rfl (lv_at hl 1 rfl) ?_
            exact hret _ _ _ _ _ _ _ _ (by rw [hf, show 8 - j = 0 by omega]; rfl) rfl rfl rfl hM dX3_wrongPointers_81
          · have hj8 : j < 8 := Nat.lt_of_not_le (fun z => hh (by exact (nI_leI (by omega) (by omega)).mpr z))
            refine lv_aload_n (pc := 50) hx hb dX3_wrongPointers_50 rfl (lv_at hl 3 rfl) ?_
            refine nf_getr (pc := 51) hC hinX1 hM (xS_5 (by first | assumption | omega)) rfl 3 (by decide) (List.mem_cons_of_mem _ wF_X3_104) rfl dX3_wrongPointers_51 ?_
            refine lv_iload_n (pc := 54) hx hb dX3_wrongPointers_54 rfl (lv_at hl 0 rfl) ?_
            refine nf_iald (pc := 55) hC hM 0 (xS_6 (by first | assumption | omega)) rfl j rfl (by omega) (by decide) dX3_wrongPointers_55 ?_
            refine lv_aload_n (pc := 56) hx hb dX3_wrongPointers_56 rfl (lv_at hl 2 rfl) ?_
            refine lv_aload_n (pc := 57) hx hb dX3_wrongPointers_57 rfl (lv_at hl 3 rfl) ?_
            refine nf_geti (pc := 58) hC hinX1 hM (xS_5 (by first | assumption | omega)) rfl 0 (by decide) (List.mem_cons_of_mem _ wF_X3_135) rfl dX3_wrongPointers_58 ?_
            refine lv_iload_n (pc := 61) hx hb dX3_wrongPointers_61 rfl (lv_at hl 0 rfl) ?_
            refine nf_calli (pc := 62) (va_runS (As := [.int (I 5 i 0), .int (nI j)]) (rest := [.ref (ad 0 0), .int (I 6 i j)]) hC.1 (ct_X3_fingerStart) (cwS 2 hC.1.2.2.2.2 (gd_S wM_X3_70 wst_X3_fingerStart wini_X3 wcode_X3_fingerStart) rfl rfl rfl (by decide +kernel) ⟨by decide, by decide⟩) (nf_preS hC hM) rfl rfl hl.1 rfl (lv_room (Nat.le_of_ble_eq_true rfl)) dX3_wrongPointers_62 ⟨Nat.le_refl _, Nat.le_refl _⟩) hM (fun H locs hM => ?_)
            refine nf_calli (pc := 65) (va_runV (As := [.int (xs_fst (I 5 i 0) (nI j))]) (rest := [.int (I 6 i j)]) hC.1 (ct_X3_firstUpFrom (st := (xs_fst (I 5 i 0) (nI j))) hn hnn) (cwV 1 hC.1.2.2.2.2 (gd_V wM_X3_125 wi_X3_firstUpFrom wsel_X3_firstUpFrom wini_X3 wcode_X3_firstUpFrom) rfl rfl rfl (by decide +kernel) ⟨by decide, by decide⟩) (nf_preV hC hM rfl rfl) rfl rfl hl.1 rfl (lv_room (Nat.le_of_ble_eq_true rfl)) dX3_wrongPointers_65 ⟨Nat.le_refl _, Nat.le_refl _⟩) hM (fun H locs hM => ?_)
            refine lv_icmp_eq (pc := 68) (tgt := 74) hx hb dX3_wrongPointers_68 (by decide) (fun h9 => ?_) (fun h9 => ?_)
            · skip
              refine lv_iinc (pc := 74) (k := 0) (v := nI (j + 1)) (lv' := [(3, .int (nI (j + 1))), (2, .int k), (0, .ref (ad 0 0)), (1, .ref (ad 5 i))]) hx hb dX3_wrongPointers_74 hl rfl (nI_1 _) (by decide) rfl (fun ls hl => ?_)
              refine lv_goto (pc := 77) (tgt := 44) hx hb dX3_wrongPointers_77 (by decide) ?_
              exact ihloop44 (j + 1) k ls _ _ (by omega) (by omega) (by rw [hf, show 8 - j = (8 - (j + 1)) + 1 by omega, xs_wf]; congr 1; simp [h9]) hM hl
            · skip
              refine lv_iinc (pc := 71) (k := 1) (v := k + 1) (lv' := [(2, .int (k + 1)), (3, .int (nI j)), (0, .ref (ad 0 0)), (1, .ref (ad 5 i))]) hx hb dX3_wrongPointers_71 hl rfl rfl (by decide) rfl (fun ls hl => ?_)
              refine lv_iinc (pc := 74) (k := 1) (v := nI (j + 1)) (lv' := [(3, .int (nI (j + 1))), (2, .int (k + 1)), (0, .ref (ad 0 0)), (1, .ref (ad 5 i))]) hx hb dX3_wrongPointers_74 hl rfl (nI_1 _) (by decide) rfl (fun ls hl => ?_)
              refine lv_goto (pc := 77) (tgt := 44) hx hb dX3_wrongPointers_77 (by decide) ?_
              exact ihloop44 (j + 1) (k + 1) ls _ _ (by omega) (by omega) (by rw [hf, show 8 - j = (8 - (j + 1)) + 1 by omega, xs_wf]; congr 1; simp [h9]) hM hl
      exact loop44 _ 0 (0 + 1) ls _ _ (Nat.lt_succ_self _) (Nat.zero_le _) (by simp [xs_wp, h1, h7]) hM hl
    · skip
      refine lv_iinc (pc := 39) (k := 0) (v := (0 + 1) + 1) (lv' := [(2, .int ((0 + 1) + 1)), (0, .ref (ad 0 0)), (1, .ref (ad 5 i))]) hx hb dX3_wrongPointers_39 hl rfl rfl (by decide) rfl (fun ls hl => ?_)
      refine lv_iconst (pc := 42) (v := 0) hx hb dX3_wrongPointers_42 (by decide) ?_
      refine lv_istore_n (pc := 43) (lv' := [(3, .int 0), (2, .int ((0 + 1) + 1)), (0, .ref (ad 0 0)), (1, .ref (ad 5 i))]) hx hb dX3_wrongPointers_43 rfl hl (by decide) rfl (fun ls hl => ?_)
      have loop44 : ∀ (n : Nat) (j : Nat) (k : Int32) (ls : Array Slot) (H : Heap) (locs : List Loc), 8 - j < n → (j ≤ 8) → (xs_wp I nn i = xs_wf I nn i (8 - j) j k) → nf_M D vwCl Bs (xS cs nn) ad I J (xP nn mp) s.heap H locs → lv_has ls 4 [(3, .int (nI j)), (2, .int k), (0, .ref (ad 0 0)), (1, .ref (ad 5 i))] → W p l e (nf_Rm 2 45) s m ([.ref (ad 0 0), .ref (ad 5 i)] : List Value).toArray below meth c H locs 0 0 Q (F0 m 44 ls []) := by
        intro n
        induction n with
        | zero => exact fun _ _ _ _ _ hmz => absurd hmz (Nat.not_lt_zero _)
        | succ n ihloop44 =>
          intro j k ls H locs hmz hjn hf hM hl
          refine lv_iload_n (pc := 44) hx hb dX3_wrongPointers_44 rfl (lv_at hl 0 rfl) ?_
          refine lv_bipush (pc := 45) (v := nI 8) hx hb dX3_wrongPointers_45 (by decide) ?_
          refine lv_icmp_ge (pc := 47) (tgt := 80) hx hb dX3_wrongPointers_47 (by decide) (fun hh => ?_) (fun hh => ?_)
          · have hj10 : 8 ≤ j := (nI_leI (by omega) (by omega)).mp (by exact hh)
            refine lv_iload_n (pc := 80) hx hb dX3_wrongPointers_80 rfl (lv_at hl 1 rfl) ?_
            exact hret _ _ _ _ _ _ _ _ (by rw [hf, show 8 - j = 0 by omega]; rfl) rfl rfl rfl hM dX3_wrongPointers_81
          · have hj10 : j < 8 := Nat.lt_of_not_le (fun z => hh (by exact (nI_leI (by omega) (by omega)).mpr z))
            refine lv_aload_n (pc := 50) hx hb dX3_wrongPointers_50 rfl (lv_at hl 3 rfl) ?_
            refine nf_getr (pc := 51) hC hinX1 hM (xS_5 (by first | assumption | omega)) rfl 3 (by decide) (List.mem_cons_of_mem _ wF_X3_104) rfl dX3_wrongPointers_51 ?_
            refine lv_iload_n (pc := 54) hx hb dX3_wrongPointers_54 rfl (lv_at hl 0 rfl) ?_
            refine nf_iald (pc := 55) hC hM 0 (xS_6 (by first | assumption | omega)) rfl j rfl (by omega) (by decide) dX3_wrongPointers_55 ?_
            refine lv_aload_n (pc := 56) hx hb dX3_wrongPointers_56 rfl (lv_at hl 2 rfl) ?_
            refine lv_aload_n (pc := 57) hx hb dX3_wrongPointers_57 rfl (lv_at hl 3 rfl) ?_
            refine nf_geti (pc := 58) hC hinX1 hM (xS_5 (by first | assumption | omega)) rfl 0 (by decide) (List.mem_cons_of_mem _ wF_X3_135) rfl dX3_wrongPointers_58 ?_
            refine lv_iload_n (pc := 61) hx hb dX3_wrongPointers_61 rfl (lv_at hl 0 rfl) ?_
            refine nf_calli (pc := 62) (va_runS (As := [.int (I 5 i 0), .int (nI j)]) (rest := [.ref (ad 0 0), .int (I 6 i j)]) hC.1 (ct_X3_fingerStart) (cwS 2 hC.1.2.2.2.2 (gd_S wM_X3_70 wst_X3_fingerStart wini_X3 wcode_X3_fingerStart) rfl rfl rfl (by decide +kernel) ⟨by decide, by decide⟩) (nf_preS hC hM) rfl rfl hl.1 rfl (lv_room (Nat.le_of_ble_eq_true rfl)) dX3_wrongPointers_62 ⟨Nat.le_refl _, Nat.le_refl _⟩) hM (fun H locs hM => ?_)
            refine nf_calli (pc := 65) (va_runV (As := [.int (xs_fst (I 5 i 0) (nI j))]) (rest := [.int (I 6 i j)]) hC.1 (ct_X3_firstUpFrom (st := (xs_fst (I 5 i 0) (nI j))) hn hnn) (cwV 1 hC.1.2.2.2.2 (gd_V wM_X3_125 wi_X3_firstUpFrom wsel_X3_firstUpFrom wini_X3 wcode_X3_firstUpFrom) rfl rfl rfl (by decide +kernel) ⟨by decide, by decide⟩) (nf_preV hC hM rfl rfl) rfl rfl hl.1 rfl (lv_room (Nat.le_of_ble_eq_true rfl)) dX3_wrongPointers_65 ⟨Nat.le_refl _, Nat.le_refl _⟩) hM (fun H locs hM => ?_)
            refine lv_icmp_eq (pc := 68) (tgt := 74) hx hb dX3_wrongPointers_68 (by decide) (fun h11 => ?_) (fun h11 => ?_)
            · skip
              refine lv_iinc (pc := 74) (k := 0) (v := nI (j + 1)) (lv' := [(3, .int (nI (j + 1))), (2, .int k), (0, .ref (ad 0 0)), (1, .ref (ad 5 i))]) hx hb dX3_wrongPointers_74 hl rfl (nI_1 _) (by decide) rfl (fun ls hl => ?_)
              refine lv_goto (pc := 77) (tgt := 44) hx hb dX3_wrongPointers_77 (by decide) ?_
              exact ihloop44 (j + 1) k ls _ _ (by omega) (by omega) (by rw [hf, show 8 - j = (8 - (j + 1)) + 1 by omega, xs_wf]; congr 1; simp [h11]) hM hl
            · skip
              refine lv_iinc (pc := 71) (k := 1) (v := k + 1) (lv' := [(2, .int (k + 1)), (3, .int (nI j)), (0, .ref (ad 0 0)), (1, .ref (ad 5 i))]) hx hb dX3_wrongPointers_71 hl rfl rfl (by decide) rfl (fun ls hl => ?_)
              refine lv_iinc (pc := 74) (k := 1) (v := nI (j + 1)) (lv' := [(3, .int (nI (j + 1))), (2, .int (k + 1)), (0, .ref (ad 0 0)), (1, .ref (ad 5 i))]) hx hb dX3_wrongPointers_74 hl rfl (nI_1 _) (by decide) rfl (fun ls hl => ?_)
              refine lv_goto (pc := 77) (tgt := 44) hx hb dX3_wrongPointers_77 (by decide) ?_
              exact ihloop44 (j + 1) (k + 1) ls _ _ (by omega) (by omega) (by rw [hf, show 8 - j = (8 - (j + 1)) + 1 by omega, xs_wf]; congr 1; simp [h11]) hM hl
      exact loop44 _ 0 ((0 + 1) + 1) ls _ _ (Nat.lt_succ_self _) (Nat.zero_le _) (by simp [xs_wp, h1, h7]) hM hl
set_option maxHeartbeats 4000000 in
set_option maxRecDepth 100000 in
theorem ct_X3_wrong  (hn : I 0 0 1 = nI nn) (hnn : nn ≤ 12) : nf_Ti l yX3_wrong wsX3_wrong 3 68 D vwCl (xT cs) Bs (xS cs nn) ad [.ref (ad 0 0)] I J (xP nn mp) (xs_wr I nn nn 0 0) I J (xP nn mp) := by
  refine nf_enteri (cc := cX3_wrong) (maxL := 3) (by decide) rfl (Nat.le_of_ble_eq_true rfl) ?_
  intro p e s m below meth c ls Q hC hM hl hret
  have hx := hC.1.1
  have hb := hC.1.2.1
  have hl : lv_has ls 3 [(0, .ref (ad 0 0))] := hl
  have hinX3 : ∀ w ∈ u_ws RX3 TX3 5, w ∈ wsX3_wrong := fun w h => List.mem_cons_of_mem _ (inX3 w h)
  refine lv_iconst (pc := 0) (v := 0) hx hb dX3_wrong_0 (by decide) ?_
  refine lv_istore_n (pc := 1) (lv' := [(1, .int 0), (0, .ref (ad 0 0))]) hx hb dX3_wrong_1 rfl hl (by decide) rfl (fun ls hl => ?_)
  refine lv_iconst (pc := 2) (v := 0) hx hb dX3_wrong_2 (by decide) ?_
  refine lv_istore_n (pc := 3) (lv' := [(2, .int 0), (1, .int 0), (0, .ref (ad 0 0))]) hx hb dX3_wrong_3 rfl hl (by decide) rfl (fun ls hl => ?_)
  have loop4 : ∀ (n : Nat) (j : Nat) (k : Int32) (ls : Array Slot) (H : Heap) (locs : List Loc), nn - j < n → (j ≤ nn) → (xs_wr I nn nn 0 0 = xs_wr I nn (nn - j) j k) → nf_M D vwCl Bs (xS cs nn) ad I J (xP nn mp) s.heap H locs → lv_has ls 3 [(2, .int (nI j)), (1, .int k), (0, .ref (ad 0 0))] → W p l e (nf_Rm 3 68) s m ([.ref (ad 0 0)] : List Value).toArray below meth c H locs 0 0 Q (F0 m 4 ls []) := by
    intro n
    induction n with
    | zero => exact fun _ _ _ _ _ hmz => absurd hmz (Nat.not_lt_zero _)
    | succ n ihloop4 =>
      intro j k ls H locs hmz hjn hf hM hl
      refine lv_iload_n (pc := 4) hx hb dX3_wrong_4 rfl (lv_at hl 0 rfl) ?_
      refine lv_aload_n (pc := 5) hx hb dX3_wrong_5 rfl (lv_at hl 2 rfl) ?_
      refine nf_geti (pc := 6) hC hinX3 hM rfl rfl 1 (by decide) (List.mem_cons_of_mem _ wF_X3_15) rfl dX3_wrong_6 ?_
      refine lv_icmp_ge (pc := 9) (tgt := 43) hx hb dX3_wrong_9 (by decide) (fun hh => ?_) (fun hh => ?_)
      · have hj1 : nn ≤ j := (nI_leI (by omega) (by omega)).mp (by rw [hn] at hh; exact hh)
        refine lv_iload_n (pc := 43) hx hb dX3_wrong_43 rfl (lv_at hl 1 rfl) ?_
        exact hret _ _ _ _ _ _ _ _ (by rw [hf, show nn - j = 0 by omega]; rfl) rfl rfl rfl hM dX3_wrong_44
      · have hj1 : j < nn := Nat.lt_of_not_le (fun z => hh (by rw [hn]; exact (nI_leI (by omega) (by omega)).mpr z))
        refine lv_aload_n (pc := 12) hx hb dX3_wrong_12 rfl (lv_at hl 2 rfl) ?_
        refine nf_getr (pc := 13) hC hinX3 hM rfl rfl 0 (by decide) (List.mem_cons_of_mem _ wF_X3_11) rfl dX3_wrong_13 ?_
        refine lv_iload_n (pc := 16) hx hb dX3_wrong_16 rfl (lv_at hl 0 rfl) ?_
        refine nf_aald (pc := 17) hC hM 2 rfl rfl j rfl (by omega) (by decide) (xP_1 (by first | assumption | omega)) dX3_wrong_17 ?_
        refine nf_calli (pc := 18) (va_runV (As := []) (rest := []) hC.1 (ct_X1_isMember (i := j) (by first | assumption | omega)) (cwV 0 hC.1.2.2.2.2 (gd_V wM_X3_128 wi_X1_isMember wsel_X1_isMember wini_X1 wcode_X1_isMember) rfl rfl rfl (by decide +kernel) ⟨by decide, by decide⟩) (nf_preV hC hM (xS_5 (by first | assumption | omega)) rfl) rfl rfl hl.1 rfl (lv_room (Nat.le_of_ble_eq_true rfl)) dX3_wrong_18 ⟨Nat.le_refl _, Nat.le_refl _⟩) hM (fun H locs hM => ?_)
        refine lv_if_eq (pc := 21) (tgt := 37) hx hb dX3_wrong_21 (by decide) (fun h2 => ?_) (fun h2 => ?_)
        · have h2 := nb_0 h2
          refine lv_iinc (pc := 37) (k := 0) (v := nI (j + 1)) (lv' := [(2, .int (nI (j + 1))), (1, .int k), (0, .ref (ad 0 0))]) hx hb dX3_wrong_37 hl rfl (nI_1 _) (by decide) rfl (fun ls hl => ?_)
          refine lv_goto (pc := 40) (tgt := 4) hx hb dX3_wrong_40 (by decide) ?_
          exact ihloop4 (j + 1) k ls _ _ (by omega) (by omega) (by rw [hf, show nn - j = (nn - (j + 1)) + 1 by omega, xs_wr]; congr 1; simp [h2]) hM hl
        · have h2 := nb_1 h2
          refine lv_iload_n (pc := 24) hx hb dX3_wrong_24 rfl (lv_at hl 1 rfl) ?_
          refine lv_aload_n (pc := 25) hx hb dX3_wrong_25 rfl (lv_at hl 2 rfl) ?_
          refine lv_aload_n (pc := 26) hx hb dX3_wrong_26 rfl (lv_at hl 2 rfl) ?_
          refine nf_getr (pc := 27) hC hinX3 hM rfl rfl 0 (by decide) (List.mem_cons_of_mem _ wF_X3_11) rfl dX3_wrong_27 ?_
          refine lv_iload_n (pc := 30) hx hb dX3_wrong_30 rfl (lv_at hl 0 rfl) ?_
          refine nf_aald (pc := 31) hC hM 2 rfl rfl j rfl (by omega) (by decide) (xP_1 (by first | assumption | omega)) dX3_wrong_31 ?_
          refine nf_calli (pc := 32) (va_runV (As := [.ref (ad 5 j)]) (rest := [.int k]) hC.1 (ct_X3_wrongPointers (i := j) hn hnn (by first | assumption | omega)) (cwV 1 hC.1.2.2.2.2 (gd_V wM_X3_131 wi_X3_wrongPointers wsel_X3_wrongPointers wini_X3 wcode_X3_wrongPointers) rfl rfl rfl (by decide +kernel) ⟨by decide, by decide⟩) (nf_preV hC hM rfl rfl) rfl rfl hl.1 rfl (lv_room (Nat.le_of_ble_eq_true rfl)) dX3_wrong_32 ⟨Nat.le_refl _, Nat.le_refl _⟩) hM (fun H locs hM => ?_)
          refine lv_iadd (pc := 35) hx hb dX3_wrong_35 ?_
          refine lv_istore_n (pc := 36) (lv' := [(1, .int (k + (xs_wp I nn j))), (2, .int (nI j)), (0, .ref (ad 0 0))]) hx hb dX3_wrong_36 rfl hl (by decide) rfl (fun ls hl => ?_)
          refine lv_iinc (pc := 37) (k := 1) (v := nI (j + 1)) (lv' := [(2, .int (nI (j + 1))), (1, .int (k + (xs_wp I nn j))), (0, .ref (ad 0 0))]) hx hb dX3_wrong_37 hl rfl (nI_1 _) (by decide) rfl (fun ls hl => ?_)
          refine lv_goto (pc := 40) (tgt := 4) hx hb dX3_wrong_40 (by decide) ?_
          exact ihloop4 (j + 1) (k + (xs_wp I nn j)) ls _ _ (by omega) (by omega) (by rw [hf, show nn - j = (nn - (j + 1)) + 1 by omega, xs_wr]; congr 1; simp [h2]) hM hl
  exact loop4 _ 0 0 ls _ _ (Nat.lt_succ_self _) (Nat.zero_le _) rfl hM hl
end XW
end
section
/-! slotOf, takeKey, valueAt. -/
section XK
variable {l : Launch} {D : va_G} {cs : Nat → ClassId} {Bs nn kc : Nat} {ad : nf_A} {I : nf_I} {J : nf_J} {mp : Nat → Nat}
set_option maxHeartbeats 4000000 in
set_option maxRecDepth 100000 in
theorem ct_X3_slotOf {key : Int32} (hk : I 0 0 3 = nI kc) (hkk : kc ≤ 10) : nf_Ti l yX3_slotOf wsX3_slotOf 0 0 D vwCl (xT cs) Bs (xS cs nn) ad [.ref (ad 0 0), .int key] I J (xP nn mp) (xs_slot I kc key) I J (xP nn mp) := by
  refine nf_enteri (cc := cX3_slotOf) (maxL := 3) (by decide) rfl (Nat.le_of_ble_eq_true rfl) ?_
  intro p e s m below meth c ls Q hC hM hl hret
  have hx := hC.1.1
  have hb := hC.1.2.1
  have hl : lv_has ls 3 [(0, .ref (ad 0 0)), (1, .int key)] := hl
  have hinX3 : ∀ w ∈ u_ws RX3 TX3 5, w ∈ wsX3_slotOf := fun w h => List.mem_cons_of_mem _ (inX3 w h)
  refine lv_iconst (pc := 0) (v := 0) hx hb dX3_slotOf_0 (by decide) ?_
  refine lv_istore_n (pc := 1) (lv' := [(2, .int 0), (0, .ref (ad 0 0)), (1, .int key)]) hx hb dX3_slotOf_1 rfl hl (by decide) rfl (fun ls hl => ?_)
  have loop2 : ∀ (n : Nat) (j : Nat) (ls : Array Slot) (H : Heap) (locs : List Loc), kc - j < n → (j ≤ kc) → (xs_slot I kc key = xs_slx I key (kc - j) j) → nf_M D vwCl Bs (xS cs nn) ad I J (xP nn mp) s.heap H locs → lv_has ls 3 [(2, .int (nI j)), (0, .ref (ad 0 0)), (1, .int key)] → W p l e (nf_Rm 0 0) s m ([.ref (ad 0 0), .int key] : List Value).toArray below meth c H locs 0 0 Q (F0 m 2 ls []) := by
    intro n
    induction n with
    | zero => exact fun _ _ _ _ hmz => absurd hmz (Nat.not_lt_zero _)
    | succ n ihloop2 =>
      intro j ls H locs hmz hjn hf hM hl
      refine lv_iload_n (pc := 2) hx hb dX3_slotOf_2 rfl (lv_at hl 0 rfl) ?_
      refine lv_aload_n (pc := 3) hx hb dX3_slotOf_3 rfl (lv_at hl 1 rfl) ?_
      refine nf_geti (pc := 4) hC hinX3 hM rfl rfl 3 (by decide) (List.mem_cons_of_mem _ wF_X3_23) rfl dX3_slotOf_4 ?_
      refine lv_icmp_ge (pc := 7) (tgt := 28) hx hb dX3_slotOf_7 (by decide) (fun hh => ?_) (fun hh => ?_)
      · have hj1 : kc ≤ j := (nI_leI (by omega) (by omega)).mp (by rw [hk] at hh; exact hh)
        refine lv_iconst (pc := 28) (v := -1) hx hb dX3_slotOf_28 (by decide) ?_
        exact hret _ _ _ _ _ _ _ _ (by rw [hf, show kc - j = 0 by omega]; rfl) rfl rfl rfl hM dX3_slotOf_29
      · have hj1 : j < kc := Nat.lt_of_not_le (fun z => hh (by rw [hk]; exact (nI_leI (by omega) (by omega)).mpr z))
        refine lv_aload_n (pc := 10) hx hb dX3_slotOf_10 rfl (lv_at hl 1 rfl) ?_
        refine nf_getr (pc := 11) hC hinX3 hM rfl rfl 2 (by decide) (List.mem_cons_of_mem _ wF_X3_19) rfl dX3_slotOf_11 ?_
        refine lv_iload_n (pc := 14) hx hb dX3_slotOf_14 rfl (lv_at hl 0 rfl) ?_
        refine nf_iald (pc := 15) hC hM 0 rfl rfl j rfl (by omega) (by decide) dX3_slotOf_15 ?_
        refine lv_iload_n (pc := 16) hx hb dX3_slotOf_16 rfl (lv_at hl 2 rfl) ?_
        refine lv_icmp_ne (pc := 17) (tgt := 22) hx hb dX3_slotOf_17 (by decide) (fun h2 => ?_) (fun h2 => ?_)
        · skip
          refine lv_iinc (pc := 22) (k := 0) (v := nI (j + 1)) (lv' := [(2, .int (nI (j + 1))), (0, .ref (ad 0 0)), (1, .int key)]) hx hb dX3_slotOf_22 hl rfl (nI_1 _) (by decide) rfl (fun ls hl => ?_)
          refine lv_goto (pc := 25) (tgt := 2) hx hb dX3_slotOf_25 (by decide) ?_
          exact ihloop2 (j + 1) ls _ _ (by omega) (by omega) (by rw [hf, show kc - j = (kc - (j + 1)) + 1 by omega, xs_slx, if_neg h2]) hM hl
        · skip
          refine lv_iload_n (pc := 20) hx hb dX3_slotOf_20 rfl (lv_at hl 0 rfl) ?_
          exact hret _ _ _ _ _ _ _ _ (by rw [hf, show kc - j = (kc - (j + 1)) + 1 by omega, xs_slx, if_pos h2]) rfl rfl rfl hM dX3_slotOf_21
  exact loop2 _ 0 ls _ _ (Nat.lt_succ_self _) (Nat.zero_le _) rfl hM hl
set_option maxHeartbeats 4000000 in
set_option maxRecDepth 100000 in
theorem ct_X3_takeKey {key : Int32} (hk : I 0 0 3 = nI kc) (hkk : kc ≤ 10) : nf_Ti l yX3_takeKey wsX3_takeKey 1 22 D vwCl (xT cs) Bs (xS cs nn) ad [.ref (ad 0 0), .int key] I J (xP nn mp) (nb_I (xs_tkB I kc key)) (xs_tkI I kc key) J (xP nn mp) := by
  refine nf_enterz (cc := cX3_takeKey) (maxL := 2) (by decide) rfl (Nat.le_of_ble_eq_true rfl) ?_
  intro p e s m below meth c ls Q hC hM hl hret
  have hx := hC.1.1
  have hb := hC.1.2.1
  have hl : lv_has ls 2 [(0, .ref (ad 0 0)), (1, .int key)] := hl
  have hinX3 : ∀ w ∈ u_ws RX3 TX3 5, w ∈ wsX3_takeKey := fun w h => List.mem_cons_of_mem _ (inX3 w h)
  refine lv_aload_n (pc := 0) hx hb dX3_takeKey_0 rfl (lv_at hl 0 rfl) ?_
  refine lv_iload_n (pc := 1) hx hb dX3_takeKey_1 rfl (lv_at hl 1 rfl) ?_
  refine nf_calli (pc := 2) (va_runV (As := [.int key]) (rest := []) hC.1 (ct_X3_slotOf (key := key) hk hkk) (cwV 1 hC.1.2.2.2.2 (gd_V wM_X3_147 wi_X3_slotOf wsel_X3_slotOf wini_X3 wcode_X3_slotOf) rfl rfl rfl (by decide +kernel) ⟨by decide, by decide⟩) (nf_preV hC hM rfl rfl) rfl rfl hl.1 rfl (lv_room (Nat.le_of_ble_eq_true rfl)) dX3_takeKey_2 ⟨Nat.le_refl _, Nat.le_refl _⟩) hM (fun H locs hM => ?_)
  refine lv_iconst (pc := 5) (v := -1) hx hb dX3_takeKey_5 (by decide) ?_
  refine lv_icmp_eq (pc := 6) (tgt := 11) hx hb dX3_takeKey_6 (by decide) (fun h1 => ?_) (fun h1 => ?_)
  · skip
    refine lv_aload_n (pc := 11) hx hb dX3_takeKey_11 rfl (lv_at hl 0 rfl) ?_
    refine nf_geti (pc := 12) hC hinX3 hM rfl rfl 3 (by decide) (List.mem_cons_of_mem _ wF_X3_23) rfl dX3_takeKey_12 ?_
    refine lv_bipush (pc := 15) (v := 10) hx hb dX3_takeKey_15 (by decide) ?_
    refine lv_icmp_lt (pc := 17) (tgt := 22) hx hb dX3_takeKey_17 (by decide) (fun h2 => ?_) (fun h2 => ?_)
    · skip
      have hkl : kc < 10 := nk_lt hk h2 (by omega) (by omega)
      refine lv_aload_n (pc := 22) hx hb dX3_takeKey_22 rfl (lv_at hl 0 rfl) ?_
      refine nf_getr (pc := 23) hC hinX3 hM rfl rfl 2 (by decide) (List.mem_cons_of_mem _ wF_X3_19) rfl dX3_takeKey_23 ?_
      refine lv_aload_n (pc := 26) hx hb dX3_takeKey_26 rfl (lv_at hl 0 rfl) ?_
      refine nf_geti (pc := 27) hC hinX3 hM rfl rfl 3 (by decide) (List.mem_cons_of_mem _ wF_X3_23) rfl dX3_takeKey_27 ?_
      refine lv_iload_n (pc := 30) hx hb dX3_takeKey_30 rfl (lv_at hl 1 rfl) ?_
      refine nf_iast (pc := 31) hC hM 0 rfl rfl kc hk hkl (by decide) dX3_takeKey_31 (fun H locs hM => ?_)
      refine lv_aload_n (pc := 32) hx hb dX3_takeKey_32 rfl (lv_at hl 0 rfl) ?_
      refine lv_dup (pc := 33) hx hb dX3_takeKey_33 rfl ?_
      refine nf_geti (pc := 34) hC hinX3 hM rfl rfl 3 (by decide) (List.mem_cons_of_mem _ wF_X3_23) rfl dX3_takeKey_34 ?_
      refine lv_iconst (pc := 37) (v := 1) hx hb dX3_takeKey_37 (by decide) ?_
      refine lv_iadd (pc := 38) hx hb dX3_takeKey_38 ?_
      refine nf_puti (pc := 39) hC hinX3 tyX3 tyX3_ok nmX3 hM rfl rfl 3 (by decide) (List.mem_cons_of_mem _ wF_X3_23) rfl (by decide +kernel) rfl dX3_takeKey_39 (fun H locs hM => ?_)
      refine lv_iconst (pc := 42) (v := 1) hx hb dX3_takeKey_42 (by decide) ?_
      exact hret _ _ _ _ _ _ _ _ (by simp [nb_I, xs_tkB, h1, h2]) (by simp [xs_tkI, h1, h2] <;> rfl) rfl rfl hM dX3_takeKey_43
    · skip
      refine lv_iconst (pc := 20) (v := 0) hx hb dX3_takeKey_20 (by decide) ?_
      exact hret _ _ _ _ _ _ _ _ (by simp [nb_I, xs_tkB, h1, h2]) (by simp [xs_tkI, h1, h2] <;> rfl) rfl rfl hM dX3_takeKey_21
  · skip
    refine lv_iconst (pc := 9) (v := 1) hx hb dX3_takeKey_9 (by decide) ?_
    exact hret _ _ _ _ _ _ _ _ (by simp [nb_I, xs_tkB, h1]) (by simp [xs_tkI, h1] <;> rfl) rfl rfl hM dX3_takeKey_10
set_option maxHeartbeats 4000000 in
set_option maxRecDepth 100000 in
theorem ct_X3_valueAt {i : Nat} {key : Int32} (hk : I 0 0 3 = nI kc) (hkk : kc ≤ 10) (hi : i < nn) : nf_Tl l yX3_valueAt wsX3_valueAt 1 22 D vwCl (xT cs) Bs (xS cs nn) ad [.ref (ad 0 0), .ref (ad 5 i), .int key] I J (xP nn mp) (xs_val I J kc i key) I J (xP nn mp) := by
  refine nf_enterl (cc := cX3_valueAt) (maxL := 4) (by decide) rfl (Nat.le_of_ble_eq_true rfl) ?_
  intro p e s m below meth c ls Q hC hM hl hret
  have hx := hC.1.1
  have hb := hC.1.2.1
  have hl : lv_has ls 4 [(0, .ref (ad 0 0)), (1, .ref (ad 5 i)), (2, .int key)] := hl
  have hinX1 : ∀ w ∈ u_ws RX1 TX1 7, w ∈ wsX3_valueAt := fun w h => List.mem_cons_of_mem _ (inX1 w h)
  refine lv_aload_n (pc := 0) hx hb dX3_valueAt_0 rfl (lv_at hl 0 rfl) ?_
  refine lv_iload_n (pc := 1) hx hb dX3_valueAt_1 rfl (lv_at hl 2 rfl) ?_
  refine nf_calli (pc := 2) (va_runV (As := [.int key]) (rest := []) hC.1 (ct_X3_slotOf (key := key) hk hkk) (cwV 1 hC.1.2.2.2.2 (gd_V wM_X3_147 wi_X3_slotOf wsel_X3_slotOf wini_X3 wcode_X3_slotOf) rfl rfl rfl (by decide +kernel) ⟨by decide, by decide⟩) (nf_preV hC hM rfl rfl) rfl rfl hl.1 rfl (lv_room (Nat.le_of_ble_eq_true rfl)) dX3_valueAt_2 ⟨Nat.le_refl _, Nat.le_refl _⟩) hM (fun H locs hM => ?_)
  refine lv_istore_n (pc := 5) (lv' := [(3, .int (xs_slot I kc key)), (0, .ref (ad 0 0)), (1, .ref (ad 5 i)), (2, .int key)]) hx hb dX3_valueAt_5 rfl hl (by decide) rfl (fun ls hl => ?_)
  refine lv_iload_n (pc := 6) hx hb dX3_valueAt_6 rfl (lv_at hl 0 rfl) ?_
  refine lv_iconst (pc := 7) (v := -1) hx hb dX3_valueAt_7 (by decide) ?_
  refine lv_icmp_ne (pc := 8) (tgt := 17) hx hb dX3_valueAt_8 (by decide) (fun h1 => ?_) (fun h1 => ?_)
  · skip
    obtain ⟨sl, hsl, hse, -⟩ := (xs_slot_c I kc key).resolve_left h1
    refine lv_aload_n (pc := 17) hx hb dX3_valueAt_17 rfl (lv_at hl 2 rfl) ?_
    refine nf_getr (pc := 18) hC hinX1 hM (xS_5 (by first | assumption | omega)) rfl 4 (by decide) (List.mem_cons_of_mem _ wF_X3_113) rfl dX3_valueAt_18 ?_
    refine lv_iload_n (pc := 21) hx hb dX3_valueAt_21 rfl (lv_at hl 0 rfl) ?_
    refine nf_lald (pc := 22) hC hM 1 (xS_7 (by first | assumption | omega)) rfl sl hse (by omega) (by decide) dX3_valueAt_22 ?_
    exact hret _ _ _ _ _ _ _ _ (by rw [xs_val, if_neg h1, hse, nI_clamp (by omega)]) rfl rfl rfl hM dX3_valueAt_23
  · skip
    refine lv_ldc2 (pc := 11) (v := 4294967296) hx hb hC.1.2.2.2.1 (hC.1.2.2.2.2 _ (List.mem_cons_of_mem _ wC_X3_107)) dX3_valueAt_11 ?_
    refine lv_goto (pc := 14) (tgt := 23) hx hb dX3_valueAt_14 (by decide) ?_
    exact hret _ _ _ _ _ _ _ _ (by simp [xs_val, h1]) rfl rfl rfl hM dX3_valueAt_23
end XK
end
section
/-! entries, misplaced. -/
section XN
variable {l : Launch} {D : va_G} {cs : Nat → ClassId} {Bs nn kc : Nat} {ad : nf_A} {I : nf_I} {J : nf_J} {mp : Nat → Nat}
set_option maxHeartbeats 4000000 in
set_option maxRecDepth 100000 in
theorem ct_X3_entries {id : Int32} (hn : I 0 0 1 = nI nn) (hnn : nn ≤ 12) : nf_Ti l yX3_entries wsX3_entries 2 44 D vwCl (xT cs) Bs (xS cs nn) ad [.ref (ad 0 0), .int id] I J (xP nn mp) (xs_ens I J nn id) I J (xP nn mp) := by
  refine nf_enteri (cc := cX3_entries) (maxL := 5) (by decide) rfl (Nat.le_of_ble_eq_true rfl) ?_
  intro p e s m below meth c ls Q hC hM hl hret
  have hx := hC.1.1
  have hb := hC.1.2.1
  have hl : lv_has ls 5 [(0, .ref (ad 0 0)), (1, .int id)] := hl
  have hinX1 : ∀ w ∈ u_ws RX1 TX1 7, w ∈ wsX3_entries := fun w h => List.mem_cons_of_mem _ (inX1 w h)
  refine lv_aload_n (pc := 0) hx hb dX3_entries_0 rfl (lv_at hl 0 rfl) ?_
  refine lv_iload_n (pc := 1) hx hb dX3_entries_1 rfl (lv_at hl 1 rfl) ?_
  refine nf_callq (pc := 2) (va_runV (As := [.int id]) (rest := []) hC.1 (ct_X3_memberWith (id := id) hn hnn) (cwV 1 hC.1.2.2.2.2 (gd_V wM_X3_47 wi_X3_memberWith wsel_X3_memberWith wini_X3 wcode_X3_memberWith) rfl rfl rfl (by decide +kernel) ⟨by decide, by decide⟩) (nf_preV hC hM rfl rfl) rfl rfl hl.1 rfl (lv_room (Nat.le_of_ble_eq_true rfl)) dX3_entries_2 ⟨Nat.le_refl _, Nat.le_refl _⟩) hM (fun H locs hM => ?_)
  cases hq1 : xs_memb I nn id with
  | none =>
    simp only [hq1, Option.map_none, va_rf]
    refine lv_astore_nN (pc := 5) (lv' := [(2, .null), (0, .ref (ad 0 0)), (1, .int id)]) hx hb dX3_entries_5 rfl hl (by decide) rfl (fun ls hl => ?_)
    refine lv_aload_nN (pc := 6) hx hb dX3_entries_6 rfl (lv_at hl 0 rfl) ?_
    refine lv_ifnonnullN (pc := 7) hx hb dX3_entries_7 ?_
    refine lv_iconst (pc := 10) (v := -1) hx hb dX3_entries_10 (by decide) ?_
    exact hret _ _ _ _ _ _ _ _ (by simp [xs_ens, hq1]) rfl rfl rfl hM dX3_entries_11
  | some i2 =>
    simp only [hq1, Option.map_some, va_rf]
    have hq1l := xs_memb_lt hq1
    refine lv_astore_n (pc := 5) (lv' := [(2, .ref (ad 5 i2)), (0, .ref (ad 0 0)), (1, .int id)]) hx hb dX3_entries_5 rfl hl (by decide) rfl (fun ls hl => ?_)
    refine lv_aload_n (pc := 6) hx hb dX3_entries_6 rfl (lv_at hl 0 rfl) ?_
    refine lv_ifnonnull (pc := 7) (tgt := 12) hx hb dX3_entries_7 (by decide) ?_
    refine lv_iconst (pc := 12) (v := 0) hx hb dX3_entries_12 (by decide) ?_
    refine lv_istore_n (pc := 13) (lv' := [(3, .int 0), (2, .ref (ad 5 i2)), (0, .ref (ad 0 0)), (1, .int id)]) hx hb dX3_entries_13 rfl hl (by decide) rfl (fun ls hl => ?_)
    refine lv_iconst (pc := 14) (v := 0) hx hb dX3_entries_14 (by decide) ?_
    refine lv_istore (pc := 15) (lv' := [(4, .int 0), (3, .int 0), (2, .ref (ad 5 i2)), (0, .ref (ad 0 0)), (1, .int id)]) hx hb dX3_entries_15 hl (by decide) rfl (fun ls hl => ?_)
    have loop17 : ∀ (n : Nat) (j : Nat) (k : Int32) (ls : Array Slot) (H : Heap) (locs : List Loc), 10 - j < n → (j ≤ 10) → (xs_ens I J nn id = xs_ent J i2 (10 - j) j k) → nf_M D vwCl Bs (xS cs nn) ad I J (xP nn mp) s.heap H locs → lv_has ls 5 [(4, .int (nI j)), (3, .int k), (2, .ref (ad 5 i2)), (0, .ref (ad 0 0)), (1, .int id)] → W p l e (nf_Rm 2 44) s m ([.ref (ad 0 0), .int id] : List Value).toArray below meth c H locs 0 0 Q (F0 m 17 ls []) := by
      intro n
      induction n with
      | zero => exact fun _ _ _ _ _ hmz => absurd hmz (Nat.not_lt_zero _)
      | succ n ihloop17 =>
        intro j k ls H locs hmz hjn hf hM hl
        refine lv_iload (pc := 17) hx hb dX3_entries_17 (lv_at hl 0 rfl) ?_
        refine lv_bipush (pc := 19) (v := nI 10) hx hb dX3_entries_19 (by decide) ?_
        refine lv_icmp_ge (pc := 21) (tgt := 47) hx hb dX3_entries_21 (by decide) (fun hh => ?_) (fun hh => ?_)
        · have hj3 : 10 ≤ j := (nI_leI (by omega) (by omega)).mp (by exact hh)
          refine lv_iload_n (pc := 47) hx hb dX3_entries_47 rfl (lv_at hl 1 rfl) ?_
          exact hret _ _ _ _ _ _ _ _ (by rw [hf, show 10 - j = 0 by omega]; rfl) rfl rfl rfl hM dX3_entries_48
        · have hj3 : j < 10 := Nat.lt_of_not_le (fun z => hh (by exact (nI_leI (by omega) (by omega)).mpr z))
          refine lv_aload_n (pc := 24) hx hb dX3_entries_24 rfl (lv_at hl 2 rfl) ?_
          refine nf_getr (pc := 25) hC hinX1 hM (xS_5 (by first | assumption | omega)) rfl 4 (by decide) (List.mem_cons_of_mem _ wF_X3_113) rfl dX3_entries_25 ?_
          refine lv_iload (pc := 28) hx hb dX3_entries_28 (lv_at hl 0 rfl) ?_
          refine nf_lald (pc := 30) hC hM 1 (xS_7 (by first | assumption | omega)) rfl j rfl (by omega) (by decide) dX3_entries_30 ?_
          refine lv_ldc2 (pc := 31) (v := 4294967296) hx hb hC.1.2.2.2.1 (hC.1.2.2.2.2 _ (List.mem_cons_of_mem _ wC_X3_107)) dX3_entries_31 ?_
          refine W.lcmp (pc := 34) hx hb dX3_entries_34 ?_
          refine lv_if_eq (pc := 35) (tgt := 41) hx hb dX3_entries_35 (by decide) (fun h4 => ?_) (fun h4 => ?_)
          · skip
            refine lv_iinc (pc := 41) (k := 0) (v := nI (j + 1)) (lv' := [(4, .int (nI (j + 1))), (3, .int k), (2, .ref (ad 5 i2)), (0, .ref (ad 0 0)), (1, .int id)]) hx hb dX3_entries_41 hl rfl (nI_1 _) (by decide) rfl (fun ls hl => ?_)
            refine lv_goto (pc := 44) (tgt := 17) hx hb dX3_entries_44 (by decide) ?_
            exact ihloop17 (j + 1) k ls _ _ (by omega) (by omega) (by rw [hf, show 10 - j = (10 - (j + 1)) + 1 by omega, xs_ent]; congr 1; simp [h4]) hM hl
          · skip
            refine lv_iinc (pc := 38) (k := 1) (v := k + 1) (lv' := [(3, .int (k + 1)), (4, .int (nI j)), (2, .ref (ad 5 i2)), (0, .ref (ad 0 0)), (1, .int id)]) hx hb dX3_entries_38 hl rfl rfl (by decide) rfl (fun ls hl => ?_)
            refine lv_iinc (pc := 41) (k := 1) (v := nI (j + 1)) (lv' := [(4, .int (nI (j + 1))), (3, .int (k + 1)), (2, .ref (ad 5 i2)), (0, .ref (ad 0 0)), (1, .int id)]) hx hb dX3_entries_41 hl rfl (nI_1 _) (by decide) rfl (fun ls hl => ?_)
            refine lv_goto (pc := 44) (tgt := 17) hx hb dX3_entries_44 (by decide) ?_
            exact ihloop17 (j + 1) (k + 1) ls _ _ (by omega) (by omega) (by rw [hf, show 10 - j = (10 - (j + 1)) + 1 by omega, xs_ent]; congr 1; simp [h4]) hM hl
    exact loop17 _ 0 0 ls _ _ (Nat.lt_succ_self _) (Nat.zero_le _) (by simp [xs_ens, hq1]) hM hl
set_option maxHeartbeats 4000000 in
set_option maxRecDepth 100000 in
theorem ct_X3_misplaced  (hn : I 0 0 1 = nI nn) (hnn : nn ≤ 12) (hk : I 0 0 3 = nI kc) (hkk : kc ≤ 10) : nf_Ti l yX3_misplaced wsX3_misplaced 2 45 D vwCl (xT cs) Bs (xS cs nn) ad [.ref (ad 0 0)] I J (xP nn mp) (xs_mo I J nn kc 0 0) I J (xP nn mp) := by
  refine nf_enteri (cc := cX3_misplaced) (maxL := 5) (by decide) rfl (Nat.le_of_ble_eq_true rfl) ?_
  intro p e s m below meth c ls Q hC hM hl hret
  have hx := hC.1.1
  have hb := hC.1.2.1
  have hl : lv_has ls 5 [(0, .ref (ad 0 0))] := hl
  have hinX1 : ∀ w ∈ u_ws RX1 TX1 7, w ∈ wsX3_misplaced := fun w h => List.mem_cons_of_mem _ (inX1 w h)
  have hinX3 : ∀ w ∈ u_ws RX3 TX3 5, w ∈ wsX3_misplaced := fun w h => List.mem_cons_of_mem _ (inX3 w h)
  refine lv_iconst (pc := 0) (v := 0) hx hb dX3_misplaced_0 (by decide) ?_
  refine lv_istore_n (pc := 1) (lv' := [(1, .int 0), (0, .ref (ad 0 0))]) hx hb dX3_misplaced_1 rfl hl (by decide) rfl (fun ls hl => ?_)
  refine lv_iconst (pc := 2) (v := 0) hx hb dX3_misplaced_2 (by decide) ?_
  refine lv_istore_n (pc := 3) (lv' := [(2, .int 0), (1, .int 0), (0, .ref (ad 0 0))]) hx hb dX3_misplaced_3 rfl hl (by decide) rfl (fun ls hl => ?_)
  have loop4 : ∀ (n : Nat) (j : Nat) (k : Int32) (ls : Array Slot) (H : Heap) (locs : List Loc), kc - j < n → (j ≤ kc) → (xs_mo I J nn kc 0 0 = xs_mo I J nn (kc - j) j k) → nf_M D vwCl Bs (xS cs nn) ad I J (xP nn mp) s.heap H locs → lv_has ls 5 [(2, .int (nI j)), (1, .int k), (0, .ref (ad 0 0))] → W p l e (nf_Rm 2 45) s m ([.ref (ad 0 0)] : List Value).toArray below meth c H locs 0 0 Q (F0 m 4 ls []) := by
    intro n
    induction n with
    | zero => exact fun _ _ _ _ _ hmz => absurd hmz (Nat.not_lt_zero _)
    | succ n ihloop4 =>
      intro j k ls H locs hmz hjn hf hM hl
      refine lv_iload_n (pc := 4) hx hb dX3_misplaced_4 rfl (lv_at hl 0 rfl) ?_
      refine lv_aload_n (pc := 5) hx hb dX3_misplaced_5 rfl (lv_at hl 2 rfl) ?_
      refine nf_geti (pc := 6) hC hinX3 hM rfl rfl 3 (by decide) (List.mem_cons_of_mem _ wF_X3_23) rfl dX3_misplaced_6 ?_
      refine lv_icmp_ge (pc := 9) (tgt := 83) hx hb dX3_misplaced_9 (by decide) (fun hh => ?_) (fun hh => ?_)
      · have hj1 : kc ≤ j := (nI_leI (by omega) (by omega)).mp (by rw [hk] at hh; exact hh)
        refine lv_iload_n (pc := 83) hx hb dX3_misplaced_83 rfl (lv_at hl 1 rfl) ?_
        exact hret _ _ _ _ _ _ _ _ (by rw [hf, show kc - j = 0 by omega]; rfl) rfl rfl rfl hM dX3_misplaced_84
      · have hj1 : j < kc := Nat.lt_of_not_le (fun z => hh (by rw [hk]; exact (nI_leI (by omega) (by omega)).mpr z))
        refine lv_aload_n (pc := 12) hx hb dX3_misplaced_12 rfl (lv_at hl 2 rfl) ?_
        refine lv_aload_n (pc := 13) hx hb dX3_misplaced_13 rfl (lv_at hl 2 rfl) ?_
        refine nf_getr (pc := 14) hC hinX3 hM rfl rfl 2 (by decide) (List.mem_cons_of_mem _ wF_X3_19) rfl dX3_misplaced_14 ?_
        refine lv_iload_n (pc := 17) hx hb dX3_misplaced_17 rfl (lv_at hl 0 rfl) ?_
        refine nf_iald (pc := 18) hC hM 0 rfl rfl j rfl (by omega) (by decide) dX3_misplaced_18 ?_
        refine nf_calli (pc := 19) (va_runV (As := [.int (I 2 0 j)]) (rest := []) hC.1 (ct_X3_firstUpFrom (st := (I 2 0 j)) hn hnn) (cwV 1 hC.1.2.2.2.2 (gd_V wM_X3_125 wi_X3_firstUpFrom wsel_X3_firstUpFrom wini_X3 wcode_X3_firstUpFrom) rfl rfl rfl (by decide +kernel) ⟨by decide, by decide⟩) (nf_preV hC hM rfl rfl) rfl rfl hl.1 rfl (lv_room (Nat.le_of_ble_eq_true rfl)) dX3_misplaced_19 ⟨Nat.le_refl _, Nat.le_refl _⟩) hM (fun H locs hM => ?_)
        refine lv_istore_n (pc := 22) (lv' := [(3, .int (xs_fu I (I 2 0 j) nn 0 (-1))), (2, .int (nI j)), (1, .int k), (0, .ref (ad 0 0))]) hx hb dX3_misplaced_22 rfl hl (by decide) rfl (fun ls hl => ?_)
        refine lv_iconst (pc := 23) (v := 0) hx hb dX3_misplaced_23 (by decide) ?_
        refine lv_istore (pc := 24) (lv' := [(4, .int 0), (3, .int (xs_fu I (I 2 0 j) nn 0 (-1))), (2, .int (nI j)), (1, .int k), (0, .ref (ad 0 0))]) hx hb dX3_misplaced_24 hl (by decide) rfl (fun ls hl => ?_)
        have loop26 : ∀ (n : Nat) (q : Nat) (r : Int32) (ls : Array Slot) (H : Heap) (locs : List Loc), nn - q < n → (q ≤ nn) → (xs_mi I J j (xs_fu I (I 2 0 j) nn 0 (-1)) nn 0 k = xs_mi I J j (xs_fu I (I 2 0 j) nn 0 (-1)) (nn - q) q r) → nf_M D vwCl Bs (xS cs nn) ad I J (xP nn mp) s.heap H locs → lv_has ls 5 [(4, .int (nI q)), (3, .int (xs_fu I (I 2 0 j) nn 0 (-1))), (2, .int (nI j)), (1, .int r), (0, .ref (ad 0 0))] → W p l e (nf_Rm 2 45) s m ([.ref (ad 0 0)] : List Value).toArray below meth c H locs 0 0 Q (F0 m 26 ls []) := by
          intro n
          induction n with
          | zero => exact fun _ _ _ _ _ hmz => absurd hmz (Nat.not_lt_zero _)
          | succ n ihloop26 =>
            intro q r ls H locs hmz hqn hg hM hl
            refine lv_iload (pc := 26) hx hb dX3_misplaced_26 (lv_at hl 0 rfl) ?_
            refine lv_aload_n (pc := 28) hx hb dX3_misplaced_28 rfl (lv_at hl 4 rfl) ?_
            refine nf_geti (pc := 29) hC hinX3 hM rfl rfl 1 (by decide) (List.mem_cons_of_mem _ wF_X3_15) rfl dX3_misplaced_29 ?_
            refine lv_icmp_ge (pc := 32) (tgt := 77) hx hb dX3_misplaced_32 (by decide) (fun hh => ?_) (fun hh => ?_)
            · have hj2 : nn ≤ q := (nI_leI (by omega) (by omega)).mp (by rw [hn] at hh; exact hh)
              refine lv_iinc (pc := 77) (k := 2) (v := nI (j + 1)) (lv' := [(2, .int (nI (j + 1))), (4, .int (nI q)), (3, .int (xs_fu I (I 2 0 j) nn 0 (-1))), (1, .int r), (0, .ref (ad 0 0))]) hx hb dX3_misplaced_77 hl rfl (nI_1 _) (by decide) rfl (fun ls hl => ?_)
              refine lv_goto (pc := 80) (tgt := 4) hx hb dX3_misplaced_80 (by decide) ?_
              exact ihloop4 (j + 1) r ls _ _ (by omega) (by omega) (by rw [hf, show kc - j = (kc - (j + 1)) + 1 by omega, xs_mo, hg, show nn - q = 0 by omega]; rfl) hM (lv_sub hl [0, 3, 4] rfl)
            · have hj2 : q < nn := Nat.lt_of_not_le (fun z => hh (by rw [hn]; exact (nI_leI (by omega) (by omega)).mpr z))
              refine lv_aload_n (pc := 35) hx hb dX3_misplaced_35 rfl (lv_at hl 4 rfl) ?_
              refine nf_getr (pc := 36) hC hinX3 hM rfl rfl 0 (by decide) (List.mem_cons_of_mem _ wF_X3_11) rfl dX3_misplaced_36 ?_
              refine lv_iload (pc := 39) hx hb dX3_misplaced_39 (lv_at hl 0 rfl) ?_
              refine nf_aald (pc := 41) hC hM 2 rfl rfl q rfl (by omega) (by decide) (xP_1 (by first | assumption | omega)) dX3_misplaced_41 ?_
              refine nf_getr (pc := 42) hC hinX1 hM (xS_5 (by first | assumption | omega)) rfl 4 (by decide) (List.mem_cons_of_mem _ wF_X3_113) rfl dX3_misplaced_42 ?_
              refine lv_iload_n (pc := 45) hx hb dX3_misplaced_45 rfl (lv_at hl 2 rfl) ?_
              refine nf_lald (pc := 46) hC hM 1 (xS_7 (by first | assumption | omega)) rfl j rfl (by omega) (by decide) dX3_misplaced_46 ?_
              refine lv_ldc2 (pc := 47) (v := 4294967296) hx hb hC.1.2.2.2.1 (hC.1.2.2.2.2 _ (List.mem_cons_of_mem _ wC_X3_107)) dX3_misplaced_47 ?_
              refine W.lcmp (pc := 50) hx hb dX3_misplaced_50 ?_
              refine lv_if_eq (pc := 51) (tgt := 71) hx hb dX3_misplaced_51 (by decide) (fun h3 => ?_) (fun h3 => ?_)
              · skip
                refine lv_iinc (pc := 71) (k := 0) (v := nI (q + 1)) (lv' := [(4, .int (nI (q + 1))), (3, .int (xs_fu I (I 2 0 j) nn 0 (-1))), (2, .int (nI j)), (1, .int r), (0, .ref (ad 0 0))]) hx hb dX3_misplaced_71 hl rfl (nI_1 _) (by decide) rfl (fun ls hl => ?_)
                refine lv_goto (pc := 74) (tgt := 26) hx hb dX3_misplaced_74 (by decide) ?_
                exact ihloop26 (q + 1) r ls _ _ (by omega) (by omega) (by rw [hg, show nn - q = (nn - (q + 1)) + 1 by omega, xs_mi]; congr 1; simp [h3]) hM hl
              · skip
                refine lv_aload_n (pc := 54) hx hb dX3_misplaced_54 rfl (lv_at hl 4 rfl) ?_
                refine nf_getr (pc := 55) hC hinX3 hM rfl rfl 0 (by decide) (List.mem_cons_of_mem _ wF_X3_11) rfl dX3_misplaced_55 ?_
                refine lv_iload (pc := 58) hx hb dX3_misplaced_58 (lv_at hl 0 rfl) ?_
                refine nf_aald (pc := 60) hC hM 2 rfl rfl q rfl (by omega) (by decide) (xP_1 (by first | assumption | omega)) dX3_misplaced_60 ?_
                refine nf_geti (pc := 61) hC hinX1 hM (xS_5 (by first | assumption | omega)) rfl 0 (by decide) (List.mem_cons_of_mem _ wF_X3_135) rfl dX3_misplaced_61 ?_
                refine lv_iload_n (pc := 64) hx hb dX3_misplaced_64 rfl (lv_at hl 1 rfl) ?_
                refine lv_icmp_eq (pc := 65) (tgt := 71) hx hb dX3_misplaced_65 (by decide) (fun h4 => ?_) (fun h4 => ?_)
                · skip
                  refine lv_iinc (pc := 71) (k := 0) (v := nI (q + 1)) (lv' := [(4, .int (nI (q + 1))), (3, .int (xs_fu I (I 2 0 j) nn 0 (-1))), (2, .int (nI j)), (1, .int r), (0, .ref (ad 0 0))]) hx hb dX3_misplaced_71 hl rfl (nI_1 _) (by decide) rfl (fun ls hl => ?_)
                  refine lv_goto (pc := 74) (tgt := 26) hx hb dX3_misplaced_74 (by decide) ?_
                  exact ihloop26 (q + 1) r ls _ _ (by omega) (by omega) (by rw [hg, show nn - q = (nn - (q + 1)) + 1 by omega, xs_mi]; congr 1; simp [h3, h4]) hM hl
                · skip
                  refine lv_iinc (pc := 68) (k := 3) (v := r + 1) (lv' := [(1, .int (r + 1)), (4, .int (nI q)), (3, .int (xs_fu I (I 2 0 j) nn 0 (-1))), (2, .int (nI j)), (0, .ref (ad 0 0))]) hx hb dX3_misplaced_68 hl rfl rfl (by decide) rfl (fun ls hl => ?_)
                  refine lv_iinc (pc := 71) (k := 1) (v := nI (q + 1)) (lv' := [(4, .int (nI (q + 1))), (1, .int (r + 1)), (3, .int (xs_fu I (I 2 0 j) nn 0 (-1))), (2, .int (nI j)), (0, .ref (ad 0 0))]) hx hb dX3_misplaced_71 hl rfl (nI_1 _) (by decide) rfl (fun ls hl => ?_)
                  refine lv_goto (pc := 74) (tgt := 26) hx hb dX3_misplaced_74 (by decide) ?_
                  exact ihloop26 (q + 1) (r + 1) ls _ _ (by omega) (by omega) (by rw [hg, show nn - q = (nn - (q + 1)) + 1 by omega, xs_mi]; congr 1; simp [h3, h4]) hM (lv_sub hl [0, 2, 3, 1, 4] rfl)
        exact loop26 _ 0 k ls _ _ (Nat.lt_succ_self _) (Nat.zero_le _) rfl hM hl
  exact loop4 _ 0 0 ls _ _ (Nat.lt_succ_self _) (Nat.zero_le _) rfl hM hl
end XN
end
section
/-! The row: at, send, takeOut. -/
section XR
variable {l : Launch} {D : va_G} {cs : Nat → ClassId} {Bs nn sz kc : Nat} {ad : nf_A} {I : nf_I} {J : nf_J} {mp : Nat → Nat}
set_option maxHeartbeats 4000000 in
set_option maxRecDepth 100000 in
theorem ct_X2_at {k : Int32} (hs : I 3 0 1 = nI sz) (hsz : sz ≤ 20) (hmp : ∀ j, j < 21 → mp j < 21) : nf_Tq l yX2_at wsX2_at 0 0 D vwCl (xT cs) Bs (xS cs nn) ad [.ref (ad 3 0), .int k] I J (xP nn mp) ((xs_at I mp k).map (ad 8)) I J (xP nn mp) := by
  refine nf_enterq (cc := cX2_at) (maxL := 2) (by decide) rfl (Nat.le_of_ble_eq_true rfl) ?_
  intro p e s m below meth c ls Q hC hM hl hret
  have hx := hC.1.1
  have hb := hC.1.2.1
  have hl : lv_has ls 2 [(0, .ref (ad 3 0)), (1, .int k)] := hl
  have hinX2 : ∀ w ∈ u_ws RX2 TX2 2, w ∈ wsX2_at := fun w h => List.mem_cons_of_mem _ (inX2 w h)
  refine lv_iload_n (pc := 0) hx hb dX2_at_0 rfl (lv_at hl 1 rfl) ?_
  refine lv_if_lt (pc := 1) (tgt := 21) hx hb dX2_at_1 (by decide) (fun h1 => ?_) (fun h1 => ?_)
  · skip
    refine lv_null (pc := 21) hx hb dX2_at_21 ?_
    exact hret _ _ _ _ _ _ _ _ (by simp [xs_at, va_rf, h1]) rfl rfl rfl hM dX2_at_22
  · skip
    refine lv_iload_n (pc := 4) hx hb dX2_at_4 rfl (lv_at hl 1 rfl) ?_
    refine lv_aload_n (pc := 5) hx hb dX2_at_5 rfl (lv_at hl 0 rfl) ?_
    refine nf_geti (pc := 6) hC hinX2 hM rfl rfl 1 (by decide) (List.mem_cons_of_mem _ wF_X2_17) rfl dX2_at_6 ?_
    refine lv_icmp_ge (pc := 9) (tgt := 21) hx hb dX2_at_9 (by decide) (fun h2 => ?_) (fun h2 => ?_)
    · skip
      refine lv_null (pc := 21) hx hb dX2_at_21 ?_
      exact hret _ _ _ _ _ _ _ _ (by simp [xs_at, va_rf, h1, h2]) rfl rfl rfl hM dX2_at_22
    · skip
      obtain ⟨kn, hkn, hke⟩ := nk_ix (n := sz) h1 (by rw [← hs]; exact h2) (by omega)
      refine lv_aload_n (pc := 12) hx hb dX2_at_12 rfl (lv_at hl 0 rfl) ?_
      refine nf_getr (pc := 13) hC hinX2 hM rfl rfl 0 (by decide) (List.mem_cons_of_mem _ wF_X2_11) rfl dX2_at_13 ?_
      refine lv_iload_n (pc := 16) hx hb dX2_at_16 rfl (lv_at hl 1 rfl) ?_
      refine nf_aald (pc := 17) hC hM 3 rfl rfl kn hke (by omega) (by decide) (xP_4 (by first | assumption | omega)) dX2_at_17 ?_
      refine lv_goto (pc := 18) (tgt := 22) hx hb dX2_at_18 (by decide) ?_
      exact hret _ _ _ _ _ _ _ _ (by rw [xs_at, if_neg h1, if_neg h2, hke, nI_clamp (by omega)]; rfl) rfl rfl rfl hM dX2_at_22
set_option maxHeartbeats 4000000 in
set_option maxRecDepth 100000 in
theorem ct_X2_send {kd tz : Int32} (hs : I 3 0 1 = nI sz) (hsz : sz < 20) (hmp : ∀ j, j < 21 → mp j < 21) : nf_Tq l yX2_send wsX2_send 0 0 D vwCl (xT cs) Bs (xS cs nn) ad [.ref (ad 3 0), .int kd, .int tz] I J (xP nn mp) (some (ad 8 (mp sz))) (xs_sI I (mp sz) kd tz) (xs_sJ J (mp sz)) (xP nn mp) := by
  refine nf_enterq (cc := cX2_send) (maxL := 4) (by decide) rfl (Nat.le_of_ble_eq_true rfl) ?_
  intro p e s m below meth c ls Q hC hM hl hret
  have hx := hC.1.1
  have hb := hC.1.2.1
  have hl : lv_has ls 4 [(0, .ref (ad 3 0)), (1, .int kd), (2, .int tz)] := hl
  have hinX0 : ∀ w ∈ u_ws RX0 TX0 9, w ∈ wsX2_send := fun w h => List.mem_cons_of_mem _ (inX0 w h)
  have hinX2 : ∀ w ∈ u_ws RX2 TX2 2, w ∈ wsX2_send := fun w h => List.mem_cons_of_mem _ (inX2 w h)
  refine lv_aload_n (pc := 0) hx hb dX2_send_0 rfl (lv_at hl 0 rfl) ?_
  refine nf_getr (pc := 1) hC hinX2 hM rfl rfl 0 (by decide) (List.mem_cons_of_mem _ wF_X2_11) rfl dX2_send_1 ?_
  refine lv_aload_n (pc := 4) hx hb dX2_send_4 rfl (lv_at hl 0 rfl) ?_
  refine nf_geti (pc := 5) hC hinX2 hM rfl rfl 1 (by decide) (List.mem_cons_of_mem _ wF_X2_17) rfl dX2_send_5 ?_
  refine nf_aald (pc := 8) hC hM 3 rfl rfl sz hs (by omega) (by decide) (xP_4 (by first | assumption | omega)) dX2_send_8 ?_
  have ho := hmp sz (by omega)
  refine lv_astore_n (pc := 9) (lv' := [(3, .ref (ad 8 (mp sz))), (0, .ref (ad 3 0)), (1, .int kd), (2, .int tz)]) hx hb dX2_send_9 rfl hl (by decide) rfl (fun ls hl => ?_)
  refine lv_aload_n (pc := 10) hx hb dX2_send_10 rfl (lv_at hl 1 rfl) ?_
  refine nf_geti (pc := 11) hC hinX2 hM rfl rfl 1 (by decide) (List.mem_cons_of_mem _ wF_X2_17) rfl dX2_send_11 ?_
  refine lv_bipush (pc := 14) (v := 20) hx hb dX2_send_14 (by decide) ?_
  refine lv_icmp_ge (pc := 16) (tgt := 29) hx hb dX2_send_16 (by decide) (fun hh => absurd hh (nk_nge hs hsz (by decide))) (fun _ => ?_)
  refine lv_aload_n (pc := 19) hx hb dX2_send_19 rfl (lv_at hl 1 rfl) ?_
  refine lv_dup (pc := 20) hx hb dX2_send_20 rfl ?_
  refine nf_geti (pc := 21) hC hinX2 hM rfl rfl 1 (by decide) (List.mem_cons_of_mem _ wF_X2_17) rfl dX2_send_21 ?_
  refine lv_iconst (pc := 24) (v := 1) hx hb dX2_send_24 (by decide) ?_
  refine lv_iadd (pc := 25) hx hb dX2_send_25 ?_
  refine nf_puti (pc := 26) hC hinX2 tyX2 tyX2_ok nmX2 hM rfl rfl 1 (by decide) (List.mem_cons_of_mem _ wF_X2_17) rfl (by decide +kernel) rfl dX2_send_26 (fun H locs hM => ?_)
  refine lv_aload_n (pc := 29) hx hb dX2_send_29 rfl (lv_at hl 0 rfl) ?_
  refine lv_iload_n (pc := 30) hx hb dX2_send_30 rfl (lv_at hl 2 rfl) ?_
  refine nf_puti (pc := 31) hC hinX0 tyX0 tyX0_ok nmX0 hM (xS_8 (by first | assumption | omega)) rfl 0 (by decide) (List.mem_cons_of_mem _ wF_X2_26) rfl (by decide +kernel) rfl dX2_send_31 (fun H locs hM => ?_)
  refine lv_aload_n (pc := 34) hx hb dX2_send_34 rfl (lv_at hl 0 rfl) ?_
  refine lv_iload_n (pc := 35) hx hb dX2_send_35 rfl (lv_at hl 3 rfl) ?_
  refine nf_puti (pc := 36) hC hinX0 tyX0 tyX0_ok nmX0 hM (xS_8 (by first | assumption | omega)) rfl 1 (by decide) (List.mem_cons_of_mem _ wF_X2_29) rfl (by decide +kernel) rfl dX2_send_36 (fun H locs hM => ?_)
  refine lv_aload_n (pc := 39) hx hb dX2_send_39 rfl (lv_at hl 0 rfl) ?_
  refine lv_iconst (pc := 40) (v := -1) hx hb dX2_send_40 (by decide) ?_
  refine nf_puti (pc := 41) hC hinX0 tyX0 tyX0_ok nmX0 hM (xS_8 (by first | assumption | omega)) rfl 2 (by decide) (List.mem_cons_of_mem _ wF_X2_32) rfl (by decide +kernel) rfl dX2_send_41 (fun H locs hM => ?_)
  refine lv_aload_n (pc := 44) hx hb dX2_send_44 rfl (lv_at hl 0 rfl) ?_
  refine lv_iconst (pc := 45) (v := 0) hx hb dX2_send_45 (by decide) ?_
  refine nf_puti (pc := 46) hC hinX0 tyX0 tyX0_ok nmX0 hM (xS_8 (by first | assumption | omega)) rfl 3 (by decide) (List.mem_cons_of_mem _ wF_X2_35) rfl (by decide +kernel) rfl dX2_send_46 (fun H locs hM => ?_)
  refine lv_aload_n (pc := 49) hx hb dX2_send_49 rfl (lv_at hl 0 rfl) ?_
  refine lv_iconst (pc := 50) (v := -1) hx hb dX2_send_50 (by decide) ?_
  refine nf_puti (pc := 51) hC hinX0 tyX0 tyX0_ok nmX0 hM (xS_8 (by first | assumption | omega)) rfl 4 (by decide) (List.mem_cons_of_mem _ wF_X2_38) rfl (by decide +kernel) rfl dX2_send_51 (fun H locs hM => ?_)
  refine lv_aload_n (pc := 54) hx hb dX2_send_54 rfl (lv_at hl 0 rfl) ?_
  refine lv_iconst (pc := 55) (v := -1) hx hb dX2_send_55 (by decide) ?_
  refine nf_puti (pc := 56) hC hinX0 tyX0 tyX0_ok nmX0 hM (xS_8 (by first | assumption | omega)) rfl 5 (by decide) (List.mem_cons_of_mem _ wF_X2_41) rfl (by decide +kernel) rfl dX2_send_56 (fun H locs hM => ?_)
  refine lv_aload_n (pc := 59) hx hb dX2_send_59 rfl (lv_at hl 0 rfl) ?_
  refine lv_iconst (pc := 60) (v := -1) hx hb dX2_send_60 (by decide) ?_
  refine nf_puti (pc := 61) hC hinX0 tyX0 tyX0_ok nmX0 hM (xS_8 (by first | assumption | omega)) rfl 6 (by decide) (List.mem_cons_of_mem _ wF_X2_44) rfl (by decide +kernel) rfl dX2_send_61 (fun H locs hM => ?_)
  refine lv_aload_n (pc := 64) hx hb dX2_send_64 rfl (lv_at hl 0 rfl) ?_
  refine lv_iconst (pc := 65) (v := 0) hx hb dX2_send_65 (by decide) ?_
  refine nf_puti (pc := 66) hC hinX0 tyX0 tyX0_ok nmX0 hM (xS_8 (by first | assumption | omega)) rfl 7 (by decide) (List.mem_cons_of_mem _ wF_X2_47) rfl (by decide +kernel) rfl dX2_send_66 (fun H locs hM => ?_)
  refine lv_aload_n (pc := 69) hx hb dX2_send_69 rfl (lv_at hl 0 rfl) ?_
  refine lv_lconst (pc := 70) (v := 0) hx hb dX2_send_70 (by decide) ?_
  refine nf_putl (pc := 71) hC hinX0 tyX0 tyX0_ok nmX0 hM (xS_8 (by first | assumption | omega)) rfl 8 (by decide) (List.mem_cons_of_mem _ wF_X2_50) rfl (by decide +kernel) rfl dX2_send_71 (fun H locs hM => ?_)
  refine lv_aload_n (pc := 74) hx hb dX2_send_74 rfl (lv_at hl 0 rfl) ?_
  exact hret _ _ _ _ _ _ _ _ rfl rfl rfl rfl hM dX2_send_75
set_option maxHeartbeats 4000000 in
set_option maxRecDepth 100000 in
theorem ct_X2_takeOut {k : Int32} (hs : I 3 0 1 = nI sz) (hsz : sz ≤ 20) (hmp : ∀ j, j < 21 → mp j < 21) : nf_Tq l yX2_takeOut wsX2_takeOut 1 21 D vwCl (xT cs) Bs (xS cs nn) ad [.ref (ad 3 0), .int k] I J (xP nn mp) ((xs_at I mp k).map (ad 8)) (xs_toI I mp k) J (xP nn (xs_toM I mp k)) := by
  refine nf_enterq (cc := cX2_takeOut) (maxL := 4) (by decide) rfl (Nat.le_of_ble_eq_true rfl) ?_
  intro p e s m below meth c ls Q hC hM hl hret
  have hx := hC.1.1
  have hb := hC.1.2.1
  have hl : lv_has ls 4 [(0, .ref (ad 3 0)), (1, .int k)] := hl
  have hinX2 : ∀ w ∈ u_ws RX2 TX2 2, w ∈ wsX2_takeOut := fun w h => List.mem_cons_of_mem _ (inX2 w h)
  refine lv_aload_n (pc := 0) hx hb dX2_takeOut_0 rfl (lv_at hl 0 rfl) ?_
  refine lv_iload_n (pc := 1) hx hb dX2_takeOut_1 rfl (lv_at hl 1 rfl) ?_
  refine nf_callq (pc := 2) (va_runV (As := [.int k]) (rest := []) hC.1 (ct_X2_at (k := k) hs (by omega) hmp) (cwV 1 hC.1.2.2.2.2 (gd_V wM_X2_22 wi_X2_at wsel_X2_at wini_X2 wcode_X2_at) rfl rfl rfl (by decide +kernel) ⟨by decide, by decide⟩) (nf_preV hC hM rfl rfl) rfl rfl hl.1 rfl (lv_room (Nat.le_of_ble_eq_true rfl)) dX2_takeOut_2 ⟨Nat.le_refl _, Nat.le_refl _⟩) hM (fun H locs hM => ?_)
  cases hq1 : xs_at I mp k with
  | none =>
    simp only [hq1, Option.map_none, va_rf]
    refine lv_astore_nN (pc := 5) (lv' := [(2, .null), (0, .ref (ad 3 0)), (1, .int k)]) hx hb dX2_takeOut_5 rfl hl (by decide) rfl (fun ls hl => ?_)
    refine lv_aload_nN (pc := 6) hx hb dX2_takeOut_6 rfl (lv_at hl 0 rfl) ?_
    refine lv_ifnonnullN (pc := 7) hx hb dX2_takeOut_7 ?_
    refine lv_null (pc := 10) hx hb dX2_takeOut_10 ?_
    exact hret _ _ _ _ _ _ _ _ (by rw [hq1]; rfl) (by simp [xs_toI, hq1]) rfl (by simp [xs_toM, hq1]) hM dX2_takeOut_11
  | some i2 =>
    simp only [hq1, Option.map_some, va_rf]
    have hq1l := xs_at_lt hs (by omega) hmp hq1
    refine lv_astore_n (pc := 5) (lv' := [(2, .ref (ad 8 i2)), (0, .ref (ad 3 0)), (1, .int k)]) hx hb dX2_takeOut_5 rfl hl (by decide) rfl (fun ls hl => ?_)
    refine lv_aload_n (pc := 6) hx hb dX2_takeOut_6 rfl (lv_at hl 0 rfl) ?_
    refine lv_ifnonnull (pc := 7) (tgt := 12) hx hb dX2_takeOut_7 (by decide) ?_
    obtain ⟨kn, hkn, hke, hko⟩ := xs_at_ix hs (by omega) hq1
    have hM : nf_M D vwCl Bs (xS cs nn) ad I J (xP nn (xs_sh mp kn kn)) s.heap H locs := by rw [xs_sh_0]; exact hM
    have hl : lv_has ls 4 [(2, .ref (ad 8 i2)), (0, .ref (ad 3 0)), (1, .int (nI kn))] := by rw [← hke]; exact hl
    refine lv_iload_n (pc := 12) hx hb dX2_takeOut_12 rfl (lv_at hl 2 rfl) ?_
    refine lv_istore_n (pc := 13) (lv' := [(3, .int (nI kn)), (2, .ref (ad 8 i2)), (0, .ref (ad 3 0)), (1, .int (nI kn))]) hx hb dX2_takeOut_13 rfl hl (by decide) rfl (fun ls hl => ?_)
    have loop14 : ∀ (n : Nat) (j : Nat) (ls : Array Slot) (H : Heap) (locs : List Loc), 20 - j < n → (kn ≤ j) → (j ≤ 20) → nf_M D vwCl Bs (xS cs nn) ad I J (xP nn (xs_sh mp kn j)) s.heap H locs → lv_has ls 4 [(3, .int (nI j)), (2, .ref (ad 8 i2)), (0, .ref (ad 3 0)), (1, .int (nI kn))] → W p l e (nf_Rm 1 21) s m ([.ref (ad 3 0), .int k] : List Value).toArray below meth c H locs 0 0 Q (F0 m 14 ls []) := by
      intro n
      induction n with
      | zero => exact fun _ _ _ _ hmz => absurd hmz (Nat.not_lt_zero _)
      | succ n ihloop14 =>
        intro j ls H locs hmz hkj hj20 hM hl
        refine lv_iload_n (pc := 14) hx hb dX2_takeOut_14 rfl (lv_at hl 0 rfl) ?_
        refine lv_bipush (pc := 15) (v := nI 20) hx hb dX2_takeOut_15 (by decide) ?_
        refine lv_icmp_ge (pc := 17) (tgt := 40) hx hb dX2_takeOut_17 (by decide) (fun hh => ?_) (fun hh => ?_)
        · have hj3 : 20 ≤ j := (nI_leI (by omega) (by omega)).mp (by exact hh)
          obtain rfl : j = 20 := by omega
          refine lv_aload_n (pc := 40) hx hb dX2_takeOut_40 rfl (lv_at hl 2 rfl) ?_
          refine nf_getr (pc := 41) hC hinX2 hM rfl rfl 0 (by decide) (List.mem_cons_of_mem _ wF_X2_11) rfl dX2_takeOut_41 ?_
          refine lv_bipush (pc := 44) (v := 20) hx hb dX2_takeOut_44 (by decide) ?_
          refine lv_aload_n (pc := 46) hx hb dX2_takeOut_46 rfl (lv_at hl 1 rfl) ?_
          refine nf_aast (pc := 47) hC hM 3 rfl rfl (xS_8 (by first | assumption | omega)) rfl 20 rfl (by omega) (by decide) dX2_takeOut_47 (fun H locs hM => ?_)
          rw [xP_put (by omega)] at hM
          refine lv_aload_n (pc := 48) hx hb dX2_takeOut_48 rfl (lv_at hl 2 rfl) ?_
          refine lv_dup (pc := 49) hx hb dX2_takeOut_49 rfl ?_
          refine nf_geti (pc := 50) hC hinX2 hM rfl rfl 1 (by decide) (List.mem_cons_of_mem _ wF_X2_17) rfl dX2_takeOut_50 ?_
          refine lv_iconst (pc := 53) (v := 1) hx hb dX2_takeOut_53 (by decide) ?_
          refine lv_isub (pc := 54) hx hb dX2_takeOut_54 ?_
          refine nf_puti (pc := 55) hC hinX2 tyX2 tyX2_ok nmX2 hM rfl rfl 1 (by decide) (List.mem_cons_of_mem _ wF_X2_17) rfl (by decide +kernel) rfl dX2_takeOut_55 (fun H locs hM => ?_)
          refine lv_aload_n (pc := 58) hx hb dX2_takeOut_58 rfl (lv_at hl 1 rfl) ?_
          exact hret _ _ _ _ _ _ _ _ (by rw [hq1]; rfl) (by simp [xs_toI, hq1]) rfl (by unfold xs_toM; rw [hq1]; simp only [xs_tk, hke]; rw [nI_clamp (by omega), hko]) hM dX2_takeOut_59
        · have hj3 : j < 20 := Nat.lt_of_not_le (fun z => hh (by exact (nI_leI (by omega) (by omega)).mpr z))
          have hsx := xs_sh_lt (k := kn) (j := j) (c := j + 1) hmp (by omega) (by omega)
          refine lv_aload_n (pc := 20) hx hb dX2_takeOut_20 rfl (lv_at hl 2 rfl) ?_
          refine nf_getr (pc := 21) hC hinX2 hM rfl rfl 0 (by decide) (List.mem_cons_of_mem _ wF_X2_11) rfl dX2_takeOut_21 ?_
          refine lv_iload_n (pc := 24) hx hb dX2_takeOut_24 rfl (lv_at hl 0 rfl) ?_
          refine lv_aload_n (pc := 25) hx hb dX2_takeOut_25 rfl (lv_at hl 2 rfl) ?_
          refine nf_getr (pc := 26) hC hinX2 hM rfl rfl 0 (by decide) (List.mem_cons_of_mem _ wF_X2_11) rfl dX2_takeOut_26 ?_
          refine lv_iload_n (pc := 29) hx hb dX2_takeOut_29 rfl (lv_at hl 0 rfl) ?_
          refine lv_iconst (pc := 30) (v := 1) hx hb dX2_takeOut_30 (by decide) ?_
          refine lv_iadd (pc := 31) hx hb dX2_takeOut_31 ?_
          refine nf_aald (pc := 32) hC hM 3 rfl rfl ((j + 1)) (nI_1 _) (by omega) (by decide) (xP_4 (by omega)) dX2_takeOut_32 ?_
          refine nf_aast (pc := 33) hC hM 3 rfl rfl (xS_8 (by first | assumption | omega)) rfl j rfl (by omega) (by decide) dX2_takeOut_33 (fun H locs hM => ?_)
          rw [xP_put (by omega), xs_sh_s mp hkj] at hM
          refine lv_iinc (pc := 34) (k := 0) (v := nI (j + 1)) (lv' := [(3, .int (nI (j + 1))), (2, .ref (ad 8 i2)), (0, .ref (ad 3 0)), (1, .int (nI kn))]) hx hb dX2_takeOut_34 hl rfl (nI_1 _) (by decide) rfl (fun ls hl => ?_)
          refine lv_goto (pc := 37) (tgt := 14) hx hb dX2_takeOut_37 (by decide) ?_
          exact ihloop14 (j + 1) ls _ _ (by omega) (by omega) (by omega) hM hl
    exact loop14 _ kn ls _ _ (Nat.lt_succ_self _) (Nat.le_refl _) (by omega) hM hl
end XR
end
section
/-! sendFind, nextTowards, passOn, findArrives. -/
section XA
variable {l : Launch} {D : va_G} {cs : Nat → ClassId} {Bs nn sz kc : Nat} {ad : nf_A} {I : nf_I} {J : nf_J} {mp : Nat → Nat}
set_option maxHeartbeats 4000000 in
set_option maxRecDepth 100000 in
theorem ct_X3_sendFind {tz ak pu ky : Int32} (hs : I 3 0 1 = nI sz) (hsz : sz < 20) (hmp : ∀ j, j < 21 → mp j < 21) : nf_Tq l yX3_sendFind wsX3_sendFind 1 23 D vwCl (xT cs) Bs (xS cs nn) ad [.ref (ad 0 0), .int tz, .int ak, .int pu, .int ky] I J (xP nn mp) (some (ad 8 (mp sz))) (xs_fI I (mp sz) tz ak pu ky) (xs_sJ J (mp sz)) (xP nn mp) := by
  refine nf_enterq (cc := cX3_sendFind) (maxL := 6) (by decide) rfl (Nat.le_of_ble_eq_true rfl) ?_
  intro p e s m below meth c ls Q hC hM hl hret
  have hx := hC.1.1
  have hb := hC.1.2.1
  have hl : lv_has ls 6 [(0, .ref (ad 0 0)), (1, .int tz), (2, .int ak), (3, .int pu), (4, .int ky)] := hl
  have hinX0 : ∀ w ∈ u_ws RX0 TX0 9, w ∈ wsX3_sendFind := fun w h => List.mem_cons_of_mem _ (inX0 w h)
  have hinX3 : ∀ w ∈ u_ws RX3 TX3 5, w ∈ wsX3_sendFind := fun w h => List.mem_cons_of_mem _ (inX3 w h)
  refine lv_aload_n (pc := 0) hx hb dX3_sendFind_0 rfl (lv_at hl 0 rfl) ?_
  refine nf_getr (pc := 1) hC hinX3 hM rfl rfl 4 (by decide) (List.mem_cons_of_mem _ wF_X3_29) rfl dX3_sendFind_1 ?_
  refine lv_iconst (pc := 4) (v := 1) hx hb dX3_sendFind_4 (by decide) ?_
  refine lv_iload_n (pc := 5) hx hb dX3_sendFind_5 rfl (lv_at hl 1 rfl) ?_
  refine nf_callq (pc := 6) (va_runV (As := [.int 1, .int tz]) (rest := []) hC.1 (ct_X2_send (kd := 1) (tz := tz) (sz := sz) hs hsz hmp) (cwV 2 hC.1.2.2.2.2 (gd_V wM_X3_58 wi_X2_send wsel_X2_send wini_X2 wcode_X2_send) rfl rfl rfl (by decide +kernel) ⟨by decide, by decide⟩) (nf_preV hC hM rfl rfl) rfl rfl hl.1 rfl (lv_room (Nat.le_of_ble_eq_true rfl)) dX3_sendFind_6 ⟨Nat.le_refl _, Nat.le_refl _⟩) hM (fun H locs hM => ?_)
  refine W.eq (g2 := F0 m 9 ls [.ref (ad 8 (mp sz))]) rfl ?_
  have hon := hmp sz (by omega)
  refine lv_astore (pc := 9) (lv' := [(5, .ref (ad 8 (mp sz))), (0, .ref (ad 0 0)), (1, .int tz), (2, .int ak), (3, .int pu), (4, .int ky)]) hx hb dX3_sendFind_9 hl (by decide) rfl (fun ls hl => ?_)
  refine lv_aload (pc := 11) hx hb dX3_sendFind_11 (lv_at hl 0 rfl) ?_
  refine lv_iload_n (pc := 13) hx hb dX3_sendFind_13 rfl (lv_at hl 3 rfl) ?_
  refine nf_puti (pc := 14) hC hinX0 tyX0 tyX0_ok nmX0 hM (xS_8 (by first | assumption | omega)) rfl 2 (by decide) (List.mem_cons_of_mem _ wF_X3_150) rfl (by decide +kernel) rfl dX3_sendFind_14 (fun H locs hM => ?_)
  refine lv_aload (pc := 17) hx hb dX3_sendFind_17 (lv_at hl 0 rfl) ?_
  refine lv_iload_n (pc := 19) hx hb dX3_sendFind_19 rfl (lv_at hl 4 rfl) ?_
  refine nf_puti (pc := 20) hC hinX0 tyX0 tyX0_ok nmX0 hM (xS_8 (by first | assumption | omega)) rfl 3 (by decide) (List.mem_cons_of_mem _ wF_X3_153) rfl (by decide +kernel) rfl dX3_sendFind_20 (fun H locs hM => ?_)
  refine lv_aload (pc := 23) hx hb dX3_sendFind_23 (lv_at hl 0 rfl) ?_
  refine lv_iload (pc := 25) hx hb dX3_sendFind_25 (lv_at hl 5 rfl) ?_
  refine nf_puti (pc := 27) hC hinX0 tyX0 tyX0_ok nmX0 hM (xS_8 (by first | assumption | omega)) rfl 4 (by decide) (List.mem_cons_of_mem _ wF_X3_156) rfl (by decide +kernel) rfl dX3_sendFind_27 (fun H locs hM => ?_)
  refine lv_aload (pc := 30) hx hb dX3_sendFind_30 (lv_at hl 0 rfl) ?_
  exact hret _ _ _ _ _ _ _ _ rfl rfl rfl rfl hM dX3_sendFind_32
set_option maxHeartbeats 4000000 in
set_option maxRecDepth 100000 in
theorem ct_X3_nextTowards {i : Nat} {ky : Int32} (hi : i < nn) : nf_Ti l yX3_nextTowards wsX3_nextTowards 2 43 D vwCl (xT cs) Bs (xS cs nn) ad [.ref (ad 5 i), .int ky] I J (xP nn mp) (xs_nt I i ky 8) I J (xP nn mp) := by
  refine nf_enteri (cc := cX3_nextTowards) (maxL := 4) (by decide) rfl (Nat.le_of_ble_eq_true rfl) ?_
  intro p e s m below meth c ls Q hC hM hl hret
  have hx := hC.1.1
  have hb := hC.1.2.1
  have hl : lv_has ls 4 [(0, .ref (ad 5 i)), (1, .int ky)] := hl
  have hinX1 : ∀ w ∈ u_ws RX1 TX1 7, w ∈ wsX3_nextTowards := fun w h => List.mem_cons_of_mem _ (inX1 w h)
  refine lv_bipush (pc := 0) (v := nI 7) hx hb dX3_nextTowards_0 (by decide) ?_
  refine lv_istore_n (pc := 2) (lv' := [(2, .int (nI 7)), (0, .ref (ad 5 i)), (1, .int ky)]) hx hb dX3_nextTowards_2 rfl hl (by decide) rfl (fun ls hl => ?_)
  have loop3 : ∀ (n : Nat) (q : Nat) (ls : Array Slot) (H : Heap) (locs : List Loc), q < n → (q ≤ 8) → (xs_nt I i ky 8 = xs_nt I i ky q) → nf_M D vwCl Bs (xS cs nn) ad I J (xP nn mp) s.heap H locs → lv_has ls 4 [(2, .int (xs_pd q)), (0, .ref (ad 5 i)), (1, .int ky)] → W p l e (nf_Rm 2 43) s m ([.ref (ad 5 i), .int ky] : List Value).toArray below meth c H locs 0 0 Q (F0 m 3 ls []) := by
    intro n
    induction n with
    | zero => exact fun _ _ _ _ hmz => absurd hmz (Nat.not_lt_zero _)
    | succ n ihloop3 =>
      intro q ls H locs hmz hq8 hf hM hl
      cases q with
      | zero =>
        have hl : lv_has ls 4 [(2, .int (-1)), (0, .ref (ad 5 i)), (1, .int ky)] := hl
        refine lv_iload_n (pc := 3) hx hb dX3_nextTowards_3 rfl (lv_at hl 0 rfl) ?_
        refine lv_if_lt (pc := 4) (tgt := 39) hx hb dX3_nextTowards_4 (by decide) (fun _ => ?_) (fun hh => absurd (by decide) hh)
        refine lv_aload_n (pc := 39) hx hb dX3_nextTowards_39 rfl (lv_at hl 1 rfl) ?_
        refine nf_geti (pc := 40) hC hinX1 hM (xS_5 (by first | assumption | omega)) rfl 1 (by decide) (List.mem_cons_of_mem _ wF_X3_41) rfl dX3_nextTowards_40 ?_
        exact hret _ _ _ _ _ _ _ _ (by rw [hf]; rfl) rfl rfl rfl hM dX3_nextTowards_43
      | succ q =>
        have hl : lv_has ls 4 [(2, .int (nI q)), (0, .ref (ad 5 i)), (1, .int ky)] := hl
        refine lv_iload_n (pc := 3) hx hb dX3_nextTowards_3 rfl (lv_at hl 0 rfl) ?_
        refine lv_if_lt (pc := 4) (tgt := 39) hx hb dX3_nextTowards_4 (by decide) (fun hh => absurd hh (nI_pos (by omega))) (fun _ => ?_)
        refine lv_aload_n (pc := 7) hx hb dX3_nextTowards_7 rfl (lv_at hl 1 rfl) ?_
        refine nf_getr (pc := 8) hC hinX1 hM (xS_5 (by first | assumption | omega)) rfl 3 (by decide) (List.mem_cons_of_mem _ wF_X3_104) rfl dX3_nextTowards_8 ?_
        refine lv_iload_n (pc := 11) hx hb dX3_nextTowards_11 rfl (lv_at hl 0 rfl) ?_
        refine nf_iald (pc := 12) hC hM 0 (xS_6 (by first | assumption | omega)) rfl q rfl (by omega) (by decide) dX3_nextTowards_12 ?_
        refine lv_istore_n (pc := 13) (lv' := [(3, .int (I 6 i q)), (2, .int (nI q)), (0, .ref (ad 5 i)), (1, .int ky)]) hx hb dX3_nextTowards_13 rfl hl (by decide) rfl (fun ls hl => ?_)
        refine lv_iload_n (pc := 14) hx hb dX3_nextTowards_14 rfl (lv_at hl 0 rfl) ?_
        refine lv_iconst (pc := 15) (v := -1) hx hb dX3_nextTowards_15 (by decide) ?_
        refine lv_icmp_eq (pc := 16) (tgt := 33) hx hb dX3_nextTowards_16 (by decide) (fun h1 => ?_) (fun h1 => ?_)
        · skip
          refine lv_iinc (pc := 33) (k := 1) (v := xs_pd q) (lv' := [(2, .int (xs_pd q)), (3, .int (I 6 i q)), (0, .ref (ad 5 i)), (1, .int ky)]) hx hb dX3_nextTowards_33 hl rfl (xs_pd_dec q) (by decide) rfl (fun ls hl => ?_)
          refine lv_goto (pc := 36) (tgt := 3) hx hb dX3_nextTowards_36 (by decide) ?_
          exact ihloop3 q ls _ _ (by omega) (by omega) (by rw [hf, xs_nt]; simp [h1]) hM (lv_sub hl [0, 2, 3] rfl)
        · skip
          refine lv_aload_n (pc := 19) hx hb dX3_nextTowards_19 rfl (lv_at hl 2 rfl) ?_
          refine nf_geti (pc := 20) hC hinX1 hM (xS_5 (by first | assumption | omega)) rfl 0 (by decide) (List.mem_cons_of_mem _ wF_X3_135) rfl dX3_nextTowards_20 ?_
          refine lv_iload_n (pc := 23) hx hb dX3_nextTowards_23 rfl (lv_at hl 3 rfl) ?_
          refine lv_iload_n (pc := 24) hx hb dX3_nextTowards_24 rfl (lv_at hl 0 rfl) ?_
          refine nf_calli (pc := 25) (va_runS (As := [.int (I 5 i 0), .int ky, .int (I 6 i q)]) (rest := []) hC.1 (ct_X3_isBetween) (cwS 3 hC.1.2.2.2.2 (gd_S wM_X3_196 wst_X3_isBetween wini_X3 wcode_X3_isBetween) rfl rfl rfl (by decide +kernel) ⟨by decide, by decide⟩) (nf_preS hC hM) rfl rfl hl.1 rfl (lv_room (Nat.le_of_ble_eq_true rfl)) dX3_nextTowards_25 ⟨Nat.le_refl _, Nat.le_refl _⟩) hM (fun H locs hM => ?_)
          refine lv_if_eq (pc := 28) (tgt := 33) hx hb dX3_nextTowards_28 (by decide) (fun h2 => ?_) (fun h2 => ?_)
          · have h2 := nb_0 h2
            refine lv_iinc (pc := 33) (k := 1) (v := xs_pd q) (lv' := [(2, .int (xs_pd q)), (3, .int (I 6 i q)), (0, .ref (ad 5 i)), (1, .int ky)]) hx hb dX3_nextTowards_33 hl rfl (xs_pd_dec q) (by decide) rfl (fun ls hl => ?_)
            refine lv_goto (pc := 36) (tgt := 3) hx hb dX3_nextTowards_36 (by decide) ?_
            exact ihloop3 q ls _ _ (by omega) (by omega) (by rw [hf, xs_nt]; simp [h1, h2]) hM (lv_sub hl [0, 2, 3] rfl)
          · have h2 := nb_1 h2
            refine lv_iload_n (pc := 31) hx hb dX3_nextTowards_31 rfl (lv_at hl 0 rfl) ?_
            exact hret _ _ _ _ _ _ _ _ (by rw [hf, xs_nt]; simp [h1, h2]) rfl rfl rfl hM dX3_nextTowards_32
  exact loop3 _ 8 ls _ _ (Nat.lt_succ_self _) (Nat.le_refl _) rfl hM hl
set_option maxHeartbeats 4000000 in
set_option maxRecDepth 100000 in
theorem ct_X3_passOn {i o : Nat} (hs : I 3 0 1 = nI sz) (hsz : sz < 20) (hmp : ∀ j, j < 21 → mp j < 21) (hi : i < nn) (ho : o < 21) : nf_Tv l yX3_passOn wsX3_passOn 3 66 D vwCl (xT cs) Bs (xS cs nn) ad [.ref (ad 0 0), .ref (ad 5 i), .ref (ad 8 o)] I J (xP nn mp) (xs_poI I i o (mp sz)) (xs_poJ J o (mp sz)) (xP nn mp) := by
  refine nf_enterv (cc := cX3_passOn) (maxL := 4) (by decide) rfl (Nat.le_of_ble_eq_true rfl) ?_
  intro p e s m below meth c ls Q hC hM hl hret
  have hx := hC.1.1
  have hb := hC.1.2.1
  have hl : lv_has ls 4 [(0, .ref (ad 0 0)), (1, .ref (ad 5 i)), (2, .ref (ad 8 o))] := hl
  have hinX0 : ∀ w ∈ u_ws RX0 TX0 9, w ∈ wsX3_passOn := fun w h => List.mem_cons_of_mem _ (inX0 w h)
  have hon := hmp sz (by omega)
  refine lv_aload_n (pc := 0) hx hb dX3_passOn_0 rfl (lv_at hl 0 rfl) ?_
  refine lv_aload_n (pc := 1) hx hb dX3_passOn_1 rfl (lv_at hl 1 rfl) ?_
  refine lv_aload_n (pc := 2) hx hb dX3_passOn_2 rfl (lv_at hl 2 rfl) ?_
  refine nf_geti (pc := 3) hC hinX0 hM (xS_8 (by first | assumption | omega)) rfl 4 (by decide) (List.mem_cons_of_mem _ wF_X3_156) rfl dX3_passOn_3 ?_
  refine nf_calli (pc := 6) (va_runS (As := [.ref (ad 5 i), .int (I 8 o 4)]) (rest := [.ref (ad 0 0)]) hC.1 (ct_X3_nextTowards (i := i) (ky := (I 8 o 4)) (by first | assumption | omega)) (cwS 2 hC.1.2.2.2.2 (gd_S wM_X3_192 wst_X3_nextTowards wini_X3 wcode_X3_nextTowards) rfl rfl rfl (by decide +kernel) ⟨by decide, by decide⟩) (nf_preS hC hM) rfl rfl hl.1 rfl (lv_room (Nat.le_of_ble_eq_true rfl)) dX3_passOn_6 ⟨Nat.le_refl _, Nat.le_refl _⟩) hM (fun H locs hM => ?_)
  refine lv_aload_n (pc := 9) hx hb dX3_passOn_9 rfl (lv_at hl 2 rfl) ?_
  refine nf_geti (pc := 10) hC hinX0 hM (xS_8 (by first | assumption | omega)) rfl 2 (by decide) (List.mem_cons_of_mem _ wF_X3_150) rfl dX3_passOn_10 ?_
  refine lv_aload_n (pc := 13) hx hb dX3_passOn_13 rfl (lv_at hl 2 rfl) ?_
  refine nf_geti (pc := 14) hC hinX0 hM (xS_8 (by first | assumption | omega)) rfl 3 (by decide) (List.mem_cons_of_mem _ wF_X3_153) rfl dX3_passOn_14 ?_
  refine lv_aload_n (pc := 17) hx hb dX3_passOn_17 rfl (lv_at hl 2 rfl) ?_
  refine nf_geti (pc := 18) hC hinX0 hM (xS_8 (by first | assumption | omega)) rfl 4 (by decide) (List.mem_cons_of_mem _ wF_X3_156) rfl dX3_passOn_18 ?_
  refine nf_callq (pc := 21) (va_runV (As := [.int (xs_nt I i (I 8 o 4) 8), .int (I 8 o 2), .int (I 8 o 3), .int (I 8 o 4)]) (rest := []) hC.1 (ct_X3_sendFind (tz := (xs_nt I i (I 8 o 4) 8)) (ak := (I 8 o 2)) (pu := (I 8 o 3)) (ky := (I 8 o 4)) (sz := sz) hs hsz hmp) (cwV 4 hC.1.2.2.2.2 (gd_V wM_X3_54 wi_X3_sendFind wsel_X3_sendFind wini_X3 wcode_X3_sendFind) rfl rfl rfl (by decide +kernel) ⟨by decide, by decide⟩) (nf_preV hC hM rfl rfl) rfl rfl hl.1 rfl (lv_room (Nat.le_of_ble_eq_true rfl)) dX3_passOn_21 ⟨Nat.le_refl _, Nat.le_refl _⟩) hM (fun H locs hM => ?_)
  refine W.eq (g2 := F0 m 24 ls [.ref (ad 8 (mp sz))]) rfl ?_
  refine lv_astore_n (pc := 24) (lv' := [(3, .ref (ad 8 (mp sz))), (0, .ref (ad 0 0)), (1, .ref (ad 5 i)), (2, .ref (ad 8 o))]) hx hb dX3_passOn_24 rfl hl (by decide) rfl (fun ls hl => ?_)
  refine lv_aload_n (pc := 25) hx hb dX3_passOn_25 rfl (lv_at hl 0 rfl) ?_
  refine lv_aload_n (pc := 26) hx hb dX3_passOn_26 rfl (lv_at hl 3 rfl) ?_
  refine nf_geti (pc := 27) hC hinX0 hM (xS_8 (by first | assumption | omega)) rfl 5 (by decide) (List.mem_cons_of_mem _ wF_X3_74) rfl dX3_passOn_27 ?_
  refine nf_puti (pc := 30) hC hinX0 tyX0 tyX0_ok nmX0 hM (xS_8 (by first | assumption | omega)) rfl 5 (by decide) (List.mem_cons_of_mem _ wF_X3_74) rfl (by decide +kernel) rfl dX3_passOn_30 (fun H locs hM => ?_)
  refine lv_aload_n (pc := 33) hx hb dX3_passOn_33 rfl (lv_at hl 0 rfl) ?_
  refine lv_aload_n (pc := 34) hx hb dX3_passOn_34 rfl (lv_at hl 3 rfl) ?_
  refine nf_getl (pc := 35) hC hinX0 hM (xS_8 (by first | assumption | omega)) rfl 8 (by decide) (List.mem_cons_of_mem _ wF_X3_80) rfl dX3_passOn_35 ?_
  refine nf_putl (pc := 38) hC hinX0 tyX0 tyX0_ok nmX0 hM (xS_8 (by first | assumption | omega)) rfl 8 (by decide) (List.mem_cons_of_mem _ wF_X3_80) rfl (by decide +kernel) rfl dX3_passOn_38 (fun H locs hM => ?_)
  refine lv_aload_n (pc := 41) hx hb dX3_passOn_41 rfl (lv_at hl 0 rfl) ?_
  refine lv_aload_n (pc := 42) hx hb dX3_passOn_42 rfl (lv_at hl 3 rfl) ?_
  refine nf_geti (pc := 43) hC hinX0 hM (xS_8 (by first | assumption | omega)) rfl 7 (by decide) (List.mem_cons_of_mem _ wF_X3_175) rfl dX3_passOn_43 ?_
  refine lv_iconst (pc := 46) (v := 1) hx hb dX3_passOn_46 (by decide) ?_
  refine lv_iadd (pc := 47) hx hb dX3_passOn_47 ?_
  refine nf_puti (pc := 48) hC hinX0 tyX0 tyX0_ok nmX0 hM (xS_8 (by first | assumption | omega)) rfl 7 (by decide) (List.mem_cons_of_mem _ wF_X3_175) rfl (by decide +kernel) rfl dX3_passOn_48 (fun H locs hM => ?_)
  exact hret _ _ _ _ _ _ _ rfl rfl rfl hM dX3_passOn_51
set_option maxHeartbeats 4000000 in
set_option maxRecDepth 100000 in
theorem ct_X3_findArrives {i o : Nat} (hs : I 3 0 1 = nI sz) (hsz : sz < 20) (hmp : ∀ j, j < 21 → mp j < 21) (hi : i < nn) (ho : o < 21) : nf_Tv l yX3_findArrives wsX3_findArrives 4 89 D vwCl (xT cs) Bs (xS cs nn) ad [.ref (ad 0 0), .ref (ad 5 i), .ref (ad 8 o)] I J (xP nn mp) (xs_fiI I i o (mp sz)) (xs_fiJ I J i o (mp sz)) (xP nn mp) := by
  refine nf_enterv (cc := cX3_findArrives) (maxL := 4) (by decide) rfl (Nat.le_of_ble_eq_true rfl) ?_
  intro p e s m below meth c ls Q hC hM hl hret
  have hx := hC.1.1
  have hb := hC.1.2.1
  have hl : lv_has ls 4 [(0, .ref (ad 0 0)), (1, .ref (ad 5 i)), (2, .ref (ad 8 o))] := hl
  have hinX0 : ∀ w ∈ u_ws RX0 TX0 9, w ∈ wsX3_findArrives := fun w h => List.mem_cons_of_mem _ (inX0 w h)
  have hinX1 : ∀ w ∈ u_ws RX1 TX1 7, w ∈ wsX3_findArrives := fun w h => List.mem_cons_of_mem _ (inX1 w h)
  have hinX3 : ∀ w ∈ u_ws RX3 TX3 5, w ∈ wsX3_findArrives := fun w h => List.mem_cons_of_mem _ (inX3 w h)
  have hon := hmp sz (by omega)
  refine lv_aload_n (pc := 0) hx hb dX3_findArrives_0 rfl (lv_at hl 1 rfl) ?_
  refine nf_geti (pc := 1) hC hinX1 hM (xS_5 (by first | assumption | omega)) rfl 0 (by decide) (List.mem_cons_of_mem _ wF_X3_135) rfl dX3_findArrives_1 ?_
  refine lv_aload_n (pc := 4) hx hb dX3_findArrives_4 rfl (lv_at hl 1 rfl) ?_
  refine nf_geti (pc := 5) hC hinX1 hM (xS_5 (by first | assumption | omega)) rfl 1 (by decide) (List.mem_cons_of_mem _ wF_X3_41) rfl dX3_findArrives_5 ?_
  refine lv_aload_n (pc := 8) hx hb dX3_findArrives_8 rfl (lv_at hl 2 rfl) ?_
  refine nf_geti (pc := 9) hC hinX0 hM (xS_8 (by first | assumption | omega)) rfl 4 (by decide) (List.mem_cons_of_mem _ wF_X3_156) rfl dX3_findArrives_9 ?_
  refine nf_calli (pc := 12) (va_runS (As := [.int (I 5 i 0), .int (I 5 i 1), .int (I 8 o 4)]) (rest := []) hC.1 (ct_X3_isPastUpTo) (cwS 3 hC.1.2.2.2.2 (gd_S wM_X3_185 wst_X3_isPastUpTo wini_X3 wcode_X3_isPastUpTo) rfl rfl rfl (by decide +kernel) ⟨by decide, by decide⟩) (nf_preS hC hM) rfl rfl hl.1 rfl (lv_room (Nat.le_of_ble_eq_true rfl)) dX3_findArrives_12 ⟨Nat.le_refl _, Nat.le_refl _⟩) hM (fun H locs hM => ?_)
  refine lv_if_ne (pc := 15) (tgt := 27) hx hb dX3_findArrives_15 (by decide) (fun h1 => ?_) (fun h1 => ?_)
  · have h1 := nb_1 h1
    refine lv_aload_n (pc := 27) hx hb dX3_findArrives_27 rfl (lv_at hl 2 rfl) ?_
    refine nf_geti (pc := 28) hC hinX0 hM (xS_8 (by first | assumption | omega)) rfl 3 (by decide) (List.mem_cons_of_mem _ wF_X3_153) rfl dX3_findArrives_28 ?_
    refine lv_iconst (pc := 31) (v := 3) hx hb dX3_findArrives_31 (by decide) ?_
    refine lv_icmp_ne (pc := 32) (tgt := 67) hx hb dX3_findArrives_32 (by decide) (fun h2 => ?_) (fun h2 => ?_)
    · skip
      refine lv_aload_n (pc := 67) hx hb dX3_findArrives_67 rfl (lv_at hl 2 rfl) ?_
      refine nf_geti (pc := 68) hC hinX0 hM (xS_8 (by first | assumption | omega)) rfl 3 (by decide) (List.mem_cons_of_mem _ wF_X3_153) rfl dX3_findArrives_68 ?_
      refine lv_iconst (pc := 71) (v := 4) hx hb dX3_findArrives_71 (by decide) ?_
      refine lv_icmp_ne (pc := 72) (tgt := 115) hx hb dX3_findArrives_72 (by decide) (fun h3 => ?_) (fun h3 => ?_)
      · skip
        refine lv_aload_n (pc := 115) hx hb dX3_findArrives_115 rfl (lv_at hl 0 rfl) ?_
        refine nf_getr (pc := 116) hC hinX3 hM rfl rfl 4 (by decide) (List.mem_cons_of_mem _ wF_X3_29) rfl dX3_findArrives_116 ?_
        refine lv_iconst (pc := 119) (v := 2) hx hb dX3_findArrives_119 (by decide) ?_
        refine lv_aload_n (pc := 120) hx hb dX3_findArrives_120 rfl (lv_at hl 2 rfl) ?_
        refine nf_geti (pc := 121) hC hinX0 hM (xS_8 (by first | assumption | omega)) rfl 2 (by decide) (List.mem_cons_of_mem _ wF_X3_150) rfl dX3_findArrives_121 ?_
        refine nf_callq (pc := 124) (va_runV (As := [.int 2, .int (I 8 o 2)]) (rest := []) hC.1 (ct_X2_send (kd := 2) (tz := (I 8 o 2)) (sz := sz) hs hsz hmp) (cwV 2 hC.1.2.2.2.2 (gd_V wM_X3_58 wi_X2_send wsel_X2_send wini_X2 wcode_X2_send) rfl rfl rfl (by decide +kernel) ⟨by decide, by decide⟩) (nf_preV hC hM rfl rfl) rfl rfl hl.1 rfl (lv_room (Nat.le_of_ble_eq_true rfl)) dX3_findArrives_124 ⟨Nat.le_refl _, Nat.le_refl _⟩) hM (fun H locs hM => ?_)
        refine W.eq (g2 := F0 m 127 ls [.ref (ad 8 (mp sz))]) rfl ?_
        refine lv_astore_n (pc := 127) (lv' := [(3, .ref (ad 8 (mp sz))), (0, .ref (ad 0 0)), (1, .ref (ad 5 i)), (2, .ref (ad 8 o))]) hx hb dX3_findArrives_127 rfl hl (by decide) rfl (fun ls hl => ?_)
        refine lv_aload_n (pc := 128) hx hb dX3_findArrives_128 rfl (lv_at hl 0 rfl) ?_
        refine lv_aload_n (pc := 129) hx hb dX3_findArrives_129 rfl (lv_at hl 3 rfl) ?_
        refine nf_geti (pc := 130) hC hinX0 hM (xS_8 (by first | assumption | omega)) rfl 3 (by decide) (List.mem_cons_of_mem _ wF_X3_153) rfl dX3_findArrives_130 ?_
        refine nf_puti (pc := 133) hC hinX0 tyX0 tyX0_ok nmX0 hM (xS_8 (by first | assumption | omega)) rfl 3 (by decide) (List.mem_cons_of_mem _ wF_X3_153) rfl (by decide +kernel) rfl dX3_findArrives_133 (fun H locs hM => ?_)
        refine lv_aload_n (pc := 136) hx hb dX3_findArrives_136 rfl (lv_at hl 0 rfl) ?_
        refine lv_aload_n (pc := 137) hx hb dX3_findArrives_137 rfl (lv_at hl 3 rfl) ?_
        refine nf_geti (pc := 138) hC hinX0 hM (xS_8 (by first | assumption | omega)) rfl 5 (by decide) (List.mem_cons_of_mem _ wF_X3_74) rfl dX3_findArrives_138 ?_
        refine nf_puti (pc := 141) hC hinX0 tyX0 tyX0_ok nmX0 hM (xS_8 (by first | assumption | omega)) rfl 5 (by decide) (List.mem_cons_of_mem _ wF_X3_74) rfl (by decide +kernel) rfl dX3_findArrives_141 (fun H locs hM => ?_)
        refine lv_aload_n (pc := 144) hx hb dX3_findArrives_144 rfl (lv_at hl 0 rfl) ?_
        refine lv_aload_n (pc := 145) hx hb dX3_findArrives_145 rfl (lv_at hl 2 rfl) ?_
        refine nf_geti (pc := 146) hC hinX1 hM (xS_5 (by first | assumption | omega)) rfl 1 (by decide) (List.mem_cons_of_mem _ wF_X3_41) rfl dX3_findArrives_146 ?_
        refine nf_puti (pc := 149) hC hinX0 tyX0 tyX0_ok nmX0 hM (xS_8 (by first | assumption | omega)) rfl 6 (by decide) (List.mem_cons_of_mem _ wF_X3_62) rfl (by decide +kernel) rfl dX3_findArrives_149 (fun H locs hM => ?_)
        refine lv_aload_n (pc := 152) hx hb dX3_findArrives_152 rfl (lv_at hl 0 rfl) ?_
        refine lv_aload_n (pc := 153) hx hb dX3_findArrives_153 rfl (lv_at hl 3 rfl) ?_
        refine nf_geti (pc := 154) hC hinX0 hM (xS_8 (by first | assumption | omega)) rfl 7 (by decide) (List.mem_cons_of_mem _ wF_X3_175) rfl dX3_findArrives_154 ?_
        refine nf_puti (pc := 157) hC hinX0 tyX0 tyX0_ok nmX0 hM (xS_8 (by first | assumption | omega)) rfl 7 (by decide) (List.mem_cons_of_mem _ wF_X3_175) rfl (by decide +kernel) rfl dX3_findArrives_157 (fun H locs hM => ?_)
        exact hret _ _ _ _ _ _ _ (by simp [xs_fiI, h1, h2, h3] <;> rfl) (by simp [xs_fiJ, h1, h2, h3] <;> rfl) rfl hM dX3_findArrives_160
      · skip
        refine lv_aload_n (pc := 75) hx hb dX3_findArrives_75 rfl (lv_at hl 0 rfl) ?_
        refine nf_getr (pc := 76) hC hinX3 hM rfl rfl 4 (by decide) (List.mem_cons_of_mem _ wF_X3_29) rfl dX3_findArrives_76 ?_
        refine lv_iconst (pc := 79) (v := 4) hx hb dX3_findArrives_79 (by decide) ?_
        refine lv_aload_n (pc := 80) hx hb dX3_findArrives_80 rfl (lv_at hl 1 rfl) ?_
        refine nf_geti (pc := 81) hC hinX1 hM (xS_5 (by first | assumption | omega)) rfl 1 (by decide) (List.mem_cons_of_mem _ wF_X3_41) rfl dX3_findArrives_81 ?_
        refine nf_callq (pc := 84) (va_runV (As := [.int 4, .int (I 5 i 1)]) (rest := []) hC.1 (ct_X2_send (kd := 4) (tz := (I 5 i 1)) (sz := sz) hs hsz hmp) (cwV 2 hC.1.2.2.2.2 (gd_V wM_X3_58 wi_X2_send wsel_X2_send wini_X2 wcode_X2_send) rfl rfl rfl (by decide +kernel) ⟨by decide, by decide⟩) (nf_preV hC hM rfl rfl) rfl rfl hl.1 rfl (lv_room (Nat.le_of_ble_eq_true rfl)) dX3_findArrives_84 ⟨Nat.le_refl _, Nat.le_refl _⟩) hM (fun H locs hM => ?_)
        refine W.eq (g2 := F0 m 87 ls [.ref (ad 8 (mp sz))]) rfl ?_
        refine lv_astore_n (pc := 87) (lv' := [(3, .ref (ad 8 (mp sz))), (0, .ref (ad 0 0)), (1, .ref (ad 5 i)), (2, .ref (ad 8 o))]) hx hb dX3_findArrives_87 rfl hl (by decide) rfl (fun ls hl => ?_)
        refine lv_aload_n (pc := 88) hx hb dX3_findArrives_88 rfl (lv_at hl 0 rfl) ?_
        refine lv_aload_n (pc := 89) hx hb dX3_findArrives_89 rfl (lv_at hl 3 rfl) ?_
        refine nf_geti (pc := 90) hC hinX0 hM (xS_8 (by first | assumption | omega)) rfl 4 (by decide) (List.mem_cons_of_mem _ wF_X3_156) rfl dX3_findArrives_90 ?_
        refine nf_puti (pc := 93) hC hinX0 tyX0 tyX0_ok nmX0 hM (xS_8 (by first | assumption | omega)) rfl 4 (by decide) (List.mem_cons_of_mem _ wF_X3_156) rfl (by decide +kernel) rfl dX3_findArrives_93 (fun H locs hM => ?_)
        refine lv_aload_n (pc := 96) hx hb dX3_findArrives_96 rfl (lv_at hl 0 rfl) ?_
        refine lv_aload_n (pc := 97) hx hb dX3_findArrives_97 rfl (lv_at hl 3 rfl) ?_
        refine nf_geti (pc := 98) hC hinX0 hM (xS_8 (by first | assumption | omega)) rfl 2 (by decide) (List.mem_cons_of_mem _ wF_X3_150) rfl dX3_findArrives_98 ?_
        refine nf_puti (pc := 101) hC hinX0 tyX0 tyX0_ok nmX0 hM (xS_8 (by first | assumption | omega)) rfl 2 (by decide) (List.mem_cons_of_mem _ wF_X3_150) rfl (by decide +kernel) rfl dX3_findArrives_101 (fun H locs hM => ?_)
        refine lv_aload_n (pc := 104) hx hb dX3_findArrives_104 rfl (lv_at hl 0 rfl) ?_
        refine lv_aload_n (pc := 105) hx hb dX3_findArrives_105 rfl (lv_at hl 3 rfl) ?_
        refine nf_geti (pc := 106) hC hinX0 hM (xS_8 (by first | assumption | omega)) rfl 7 (by decide) (List.mem_cons_of_mem _ wF_X3_175) rfl dX3_findArrives_106 ?_
        refine nf_puti (pc := 109) hC hinX0 tyX0 tyX0_ok nmX0 hM (xS_8 (by first | assumption | omega)) rfl 7 (by decide) (List.mem_cons_of_mem _ wF_X3_175) rfl (by decide +kernel) rfl dX3_findArrives_109 (fun H locs hM => ?_)
        refine lv_goto (pc := 112) (tgt := 160) hx hb dX3_findArrives_112 (by decide) ?_
        exact hret _ _ _ _ _ _ _ (by simp [xs_fiI, h1, h2, h3] <;> rfl) (by simp [xs_fiJ, h1, h2, h3] <;> rfl) rfl hM dX3_findArrives_160
    · skip
      refine lv_aload_n (pc := 35) hx hb dX3_findArrives_35 rfl (lv_at hl 0 rfl) ?_
      refine nf_getr (pc := 36) hC hinX3 hM rfl rfl 4 (by decide) (List.mem_cons_of_mem _ wF_X3_29) rfl dX3_findArrives_36 ?_
      refine lv_iconst (pc := 39) (v := 3) hx hb dX3_findArrives_39 (by decide) ?_
      refine lv_aload_n (pc := 40) hx hb dX3_findArrives_40 rfl (lv_at hl 1 rfl) ?_
      refine nf_geti (pc := 41) hC hinX1 hM (xS_5 (by first | assumption | omega)) rfl 1 (by decide) (List.mem_cons_of_mem _ wF_X3_41) rfl dX3_findArrives_41 ?_
      refine nf_callq (pc := 44) (va_runV (As := [.int 3, .int (I 5 i 1)]) (rest := []) hC.1 (ct_X2_send (kd := 3) (tz := (I 5 i 1)) (sz := sz) hs hsz hmp) (cwV 2 hC.1.2.2.2.2 (gd_V wM_X3_58 wi_X2_send wsel_X2_send wini_X2 wcode_X2_send) rfl rfl rfl (by decide +kernel) ⟨by decide, by decide⟩) (nf_preV hC hM rfl rfl) rfl rfl hl.1 rfl (lv_room (Nat.le_of_ble_eq_true rfl)) dX3_findArrives_44 ⟨Nat.le_refl _, Nat.le_refl _⟩) hM (fun H locs hM => ?_)
      refine W.eq (g2 := F0 m 47 ls [.ref (ad 8 (mp sz))]) rfl ?_
      refine lv_astore_n (pc := 47) (lv' := [(3, .ref (ad 8 (mp sz))), (0, .ref (ad 0 0)), (1, .ref (ad 5 i)), (2, .ref (ad 8 o))]) hx hb dX3_findArrives_47 rfl hl (by decide) rfl (fun ls hl => ?_)
      refine lv_aload_n (pc := 48) hx hb dX3_findArrives_48 rfl (lv_at hl 0 rfl) ?_
      refine lv_aload_n (pc := 49) hx hb dX3_findArrives_49 rfl (lv_at hl 3 rfl) ?_
      refine nf_geti (pc := 50) hC hinX0 hM (xS_8 (by first | assumption | omega)) rfl 4 (by decide) (List.mem_cons_of_mem _ wF_X3_156) rfl dX3_findArrives_50 ?_
      refine nf_puti (pc := 53) hC hinX0 tyX0 tyX0_ok nmX0 hM (xS_8 (by first | assumption | omega)) rfl 4 (by decide) (List.mem_cons_of_mem _ wF_X3_156) rfl (by decide +kernel) rfl dX3_findArrives_53 (fun H locs hM => ?_)
      refine lv_aload_n (pc := 56) hx hb dX3_findArrives_56 rfl (lv_at hl 0 rfl) ?_
      refine lv_aload_n (pc := 57) hx hb dX3_findArrives_57 rfl (lv_at hl 3 rfl) ?_
      refine nf_getl (pc := 58) hC hinX0 hM (xS_8 (by first | assumption | omega)) rfl 8 (by decide) (List.mem_cons_of_mem _ wF_X3_80) rfl dX3_findArrives_58 ?_
      refine nf_putl (pc := 61) hC hinX0 tyX0 tyX0_ok nmX0 hM (xS_8 (by first | assumption | omega)) rfl 8 (by decide) (List.mem_cons_of_mem _ wF_X3_80) rfl (by decide +kernel) rfl dX3_findArrives_61 (fun H locs hM => ?_)
      refine lv_goto (pc := 64) (tgt := 160) hx hb dX3_findArrives_64 (by decide) ?_
      exact hret _ _ _ _ _ _ _ (by simp [xs_fiI, h1, h2] <;> rfl) (by simp [xs_fiJ, h1, h2] <;> rfl) rfl hM dX3_findArrives_160
  · have h1 := nb_0 h1
    refine lv_aload_n (pc := 18) hx hb dX3_findArrives_18 rfl (lv_at hl 0 rfl) ?_
    refine lv_aload_n (pc := 19) hx hb dX3_findArrives_19 rfl (lv_at hl 1 rfl) ?_
    refine lv_aload_n (pc := 20) hx hb dX3_findArrives_20 rfl (lv_at hl 2 rfl) ?_
    refine nf_callv (pc := 21) (va_runV (As := [.ref (ad 5 i), .ref (ad 8 o)]) (rest := []) hC.1 (ct_X3_passOn (i := i) (o := o) (sz := sz) hs hsz hmp (by first | assumption | omega) (by first | assumption | omega)) (cwV 2 hC.1.2.2.2.2 (gd_V wM_X3_189 wi_X3_passOn wsel_X3_passOn wini_X3 wcode_X3_passOn) rfl rfl rfl (by decide +kernel) ⟨by decide, by decide⟩) (nf_preV hC hM rfl rfl) rfl rfl hl.1 rfl (lv_room (Nat.le_of_ble_eq_true rfl)) dX3_findArrives_21 ⟨Nat.le_refl _, Nat.le_refl _⟩) hM (fun H locs hM => ?_)
    refine lv_goto (pc := 24) (tgt := 160) hx hb dX3_findArrives_24 (by decide) ?_
    exact hret _ _ _ _ _ _ _ (by simp [xs_fiI, h1] <;> rfl) (by simp [xs_fiJ, h1] <;> rfl) rfl hM dX3_findArrives_160
end XA
end
section
/-! What each kind of message does when it arrives. -/
section XB
variable {l : Launch} {D : va_G} {cs : Nat → ClassId} {Bs nn sz kc : Nat} {ad : nf_A} {I : nf_I} {J : nf_J} {mp : Nat → Nat}
set_option maxHeartbeats 4000000 in
set_option maxRecDepth 100000 in
theorem ct_X3_foundArrives {i o : Nat} (hi : i < nn) (ho : o < 21) : nf_Tv l yX3_foundArrives wsX3_foundArrives 1 20 D vwCl (xT cs) Bs (xS cs nn) ad [.ref (ad 0 0), .ref (ad 5 i), .ref (ad 8 o)] I J (xP nn mp) (xs_foI I i o) J (xP nn mp) := by
  refine nf_enterv (cc := cX3_foundArrives) (maxL := 3) (by decide) rfl (Nat.le_of_ble_eq_true rfl) ?_
  intro p e s m below meth c ls Q hC hM hl hret
  have hx := hC.1.1
  have hb := hC.1.2.1
  have hl : lv_has ls 3 [(0, .ref (ad 0 0)), (1, .ref (ad 5 i)), (2, .ref (ad 8 o))] := hl
  have hinX0 : ∀ w ∈ u_ws RX0 TX0 9, w ∈ wsX3_foundArrives := fun w h => List.mem_cons_of_mem _ (inX0 w h)
  have hinX1 : ∀ w ∈ u_ws RX1 TX1 7, w ∈ wsX3_foundArrives := fun w h => List.mem_cons_of_mem _ (inX1 w h)
  refine lv_aload_n (pc := 0) hx hb dX3_foundArrives_0 rfl (lv_at hl 2 rfl) ?_
  refine nf_geti (pc := 1) hC hinX0 hM (xS_8 (by first | assumption | omega)) rfl 3 (by decide) (List.mem_cons_of_mem _ wF_X3_153) rfl dX3_foundArrives_1 ?_
  refine lv_iconst (pc := 4) (v := 1) hx hb dX3_foundArrives_4 (by decide) ?_
  refine lv_icmp_ne (pc := 5) (tgt := 19) hx hb dX3_foundArrives_5 (by decide) (fun h1 => ?_) (fun h1 => ?_)
  · skip
    refine lv_aload_n (pc := 19) hx hb dX3_foundArrives_19 rfl (lv_at hl 2 rfl) ?_
    refine nf_geti (pc := 20) hC hinX0 hM (xS_8 (by first | assumption | omega)) rfl 5 (by decide) (List.mem_cons_of_mem _ wF_X3_74) rfl dX3_foundArrives_20 ?_
    refine nf_calli (pc := 23) (va_runS (As := [.int (I 8 o 5)]) (rest := []) hC.1 (ct_X3_isFinger) (cwS 1 hC.1.2.2.2.2 (gd_S wM_X3_67 wst_X3_isFinger wini_X3 wcode_X3_isFinger) rfl rfl rfl (by decide +kernel) ⟨by decide, by decide⟩) (nf_preS hC hM) rfl rfl hl.1 rfl (lv_room (Nat.le_of_ble_eq_true rfl)) dX3_foundArrives_23 ⟨Nat.le_refl _, Nat.le_refl _⟩) hM (fun H locs hM => ?_)
    refine lv_if_eq (pc := 26) (tgt := 42) hx hb dX3_foundArrives_26 (by decide) (fun h2 => ?_) (fun h2 => ?_)
    · have h2 := nb_0 h2
      refine lv_aload_n (pc := 42) hx hb dX3_foundArrives_42 rfl (lv_at hl 1 rfl) ?_
      refine lv_aload_n (pc := 43) hx hb dX3_foundArrives_43 rfl (lv_at hl 2 rfl) ?_
      refine nf_geti (pc := 44) hC hinX0 hM (xS_8 (by first | assumption | omega)) rfl 7 (by decide) (List.mem_cons_of_mem _ wF_X3_175) rfl dX3_foundArrives_44 ?_
      refine nf_puti (pc := 47) hC hinX1 tyX1 tyX1_ok nmX1 hM (xS_5 (by first | assumption | omega)) rfl 6 (by decide) (List.mem_cons_of_mem _ wF_X3_122) rfl (by decide +kernel) rfl dX3_foundArrives_47 (fun H locs hM => ?_)
      exact hret _ _ _ _ _ _ _ (by simp [xs_foI, xs_fo1, h1, h2] <;> rfl) rfl rfl hM dX3_foundArrives_50
    · have h2 := nb_1 h2
      obtain ⟨fn, hfn, hfe⟩ := xs_isFinger_ix h2
      refine lv_aload_n (pc := 29) hx hb dX3_foundArrives_29 rfl (lv_at hl 1 rfl) ?_
      refine nf_getr (pc := 30) hC hinX1 hM (xS_5 (by first | assumption | omega)) rfl 3 (by decide) (List.mem_cons_of_mem _ wF_X3_104) rfl dX3_foundArrives_30 ?_
      refine lv_aload_n (pc := 33) hx hb dX3_foundArrives_33 rfl (lv_at hl 2 rfl) ?_
      refine nf_geti (pc := 34) hC hinX0 hM (xS_8 (by first | assumption | omega)) rfl 5 (by decide) (List.mem_cons_of_mem _ wF_X3_74) rfl dX3_foundArrives_34 ?_
      refine lv_aload_n (pc := 37) hx hb dX3_foundArrives_37 rfl (lv_at hl 2 rfl) ?_
      refine nf_geti (pc := 38) hC hinX0 hM (xS_8 (by first | assumption | omega)) rfl 6 (by decide) (List.mem_cons_of_mem _ wF_X3_62) rfl dX3_foundArrives_38 ?_
      refine nf_iast (pc := 41) hC hM 0 (xS_6 (by first | assumption | omega)) rfl fn hfe (by omega) (by decide) dX3_foundArrives_41 (fun H locs hM => ?_)
      refine lv_aload_n (pc := 42) hx hb dX3_foundArrives_42 rfl (lv_at hl 1 rfl) ?_
      refine lv_aload_n (pc := 43) hx hb dX3_foundArrives_43 rfl (lv_at hl 2 rfl) ?_
      refine nf_geti (pc := 44) hC hinX0 hM (xS_8 (by first | assumption | omega)) rfl 7 (by decide) (List.mem_cons_of_mem _ wF_X3_175) rfl dX3_foundArrives_44 ?_
      refine nf_puti (pc := 47) hC hinX1 tyX1 tyX1_ok nmX1 hM (xS_5 (by first | assumption | omega)) rfl 6 (by decide) (List.mem_cons_of_mem _ wF_X3_122) rfl (by decide +kernel) rfl dX3_foundArrives_47 (fun H locs hM => ?_)
      exact hret _ _ _ _ _ _ _ (by rw [xs_foI, xs_fo1, if_neg h1, if_neg (by rw [h2]; decide), hfe, nI_clamp (by omega)]) rfl rfl hM dX3_foundArrives_50
  · skip
    refine lv_aload_n (pc := 8) hx hb dX3_foundArrives_8 rfl (lv_at hl 1 rfl) ?_
    refine lv_aload_n (pc := 9) hx hb dX3_foundArrives_9 rfl (lv_at hl 2 rfl) ?_
    refine nf_geti (pc := 10) hC hinX0 hM (xS_8 (by first | assumption | omega)) rfl 6 (by decide) (List.mem_cons_of_mem _ wF_X3_62) rfl dX3_foundArrives_10 ?_
    refine nf_puti (pc := 13) hC hinX1 tyX1 tyX1_ok nmX1 hM (xS_5 (by first | assumption | omega)) rfl 1 (by decide) (List.mem_cons_of_mem _ wF_X3_41) rfl (by decide +kernel) rfl dX3_foundArrives_13 (fun H locs hM => ?_)
    refine lv_goto (pc := 16) (tgt := 42) hx hb dX3_foundArrives_16 (by decide) ?_
    refine lv_aload_n (pc := 42) hx hb dX3_foundArrives_42 rfl (lv_at hl 1 rfl) ?_
    refine lv_aload_n (pc := 43) hx hb dX3_foundArrives_43 rfl (lv_at hl 2 rfl) ?_
    refine nf_geti (pc := 44) hC hinX0 hM (xS_8 (by first | assumption | omega)) rfl 7 (by decide) (List.mem_cons_of_mem _ wF_X3_175) rfl dX3_foundArrives_44 ?_
    refine nf_puti (pc := 47) hC hinX1 tyX1 tyX1_ok nmX1 hM (xS_5 (by first | assumption | omega)) rfl 6 (by decide) (List.mem_cons_of_mem _ wF_X3_122) rfl (by decide +kernel) rfl dX3_foundArrives_47 (fun H locs hM => ?_)
    exact hret _ _ _ _ _ _ _ (by simp [xs_foI, xs_fo1, h1] <;> rfl) rfl rfl hM dX3_foundArrives_50
set_option maxHeartbeats 4000000 in
set_option maxRecDepth 100000 in
theorem ct_X3_storeArrives {i o : Nat} (hk : I 0 0 3 = nI kc) (hkk : kc ≤ 10) (hi : i < nn) (ho : o < 21) : nf_Tv l yX3_storeArrives wsX3_storeArrives 1 22 D vwCl (xT cs) Bs (xS cs nn) ad [.ref (ad 0 0), .ref (ad 5 i), .ref (ad 8 o)] I J (xP nn mp) I (xs_stJ I J kc i o) (xP nn mp) := by
  refine nf_enterv (cc := cX3_storeArrives) (maxL := 4) (by decide) rfl (Nat.le_of_ble_eq_true rfl) ?_
  intro p e s m below meth c ls Q hC hM hl hret
  have hx := hC.1.1
  have hb := hC.1.2.1
  have hl : lv_has ls 4 [(0, .ref (ad 0 0)), (1, .ref (ad 5 i)), (2, .ref (ad 8 o))] := hl
  have hinX0 : ∀ w ∈ u_ws RX0 TX0 9, w ∈ wsX3_storeArrives := fun w h => List.mem_cons_of_mem _ (inX0 w h)
  have hinX1 : ∀ w ∈ u_ws RX1 TX1 7, w ∈ wsX3_storeArrives := fun w h => List.mem_cons_of_mem _ (inX1 w h)
  refine lv_aload_n (pc := 0) hx hb dX3_storeArrives_0 rfl (lv_at hl 0 rfl) ?_
  refine lv_aload_n (pc := 1) hx hb dX3_storeArrives_1 rfl (lv_at hl 2 rfl) ?_
  refine nf_geti (pc := 2) hC hinX0 hM (xS_8 (by first | assumption | omega)) rfl 4 (by decide) (List.mem_cons_of_mem _ wF_X3_156) rfl dX3_storeArrives_2 ?_
  refine nf_calli (pc := 5) (va_runV (As := [.int (I 8 o 4)]) (rest := []) hC.1 (ct_X3_slotOf (key := (I 8 o 4)) hk hkk) (cwV 1 hC.1.2.2.2.2 (gd_V wM_X3_147 wi_X3_slotOf wsel_X3_slotOf wini_X3 wcode_X3_slotOf) rfl rfl rfl (by decide +kernel) ⟨by decide, by decide⟩) (nf_preV hC hM rfl rfl) rfl rfl hl.1 rfl (lv_room (Nat.le_of_ble_eq_true rfl)) dX3_storeArrives_5 ⟨Nat.le_refl _, Nat.le_refl _⟩) hM (fun H locs hM => ?_)
  refine lv_istore_n (pc := 8) (lv' := [(3, .int (xs_slot I kc (I 8 o 4))), (0, .ref (ad 0 0)), (1, .ref (ad 5 i)), (2, .ref (ad 8 o))]) hx hb dX3_storeArrives_8 rfl hl (by decide) rfl (fun ls hl => ?_)
  refine lv_iload_n (pc := 9) hx hb dX3_storeArrives_9 rfl (lv_at hl 0 rfl) ?_
  refine lv_iconst (pc := 10) (v := -1) hx hb dX3_storeArrives_10 (by decide) ?_
  refine lv_icmp_eq (pc := 11) (tgt := 24) hx hb dX3_storeArrives_11 (by decide) (fun h1 => ?_) (fun h1 => ?_)
  · skip
    exact hret _ _ _ _ _ _ _ rfl (by simp [xs_stJ, h1]) rfl hM dX3_storeArrives_24
  · skip
    obtain ⟨sl, hsl, hse, -⟩ := (xs_slot_c I kc (I 8 o 4)).resolve_left h1
    refine lv_aload_n (pc := 14) hx hb dX3_storeArrives_14 rfl (lv_at hl 2 rfl) ?_
    refine nf_getr (pc := 15) hC hinX1 hM (xS_5 (by first | assumption | omega)) rfl 4 (by decide) (List.mem_cons_of_mem _ wF_X3_113) rfl dX3_storeArrives_15 ?_
    refine lv_iload_n (pc := 18) hx hb dX3_storeArrives_18 rfl (lv_at hl 0 rfl) ?_
    refine lv_aload_n (pc := 19) hx hb dX3_storeArrives_19 rfl (lv_at hl 3 rfl) ?_
    refine nf_getl (pc := 20) hC hinX0 hM (xS_8 (by first | assumption | omega)) rfl 8 (by decide) (List.mem_cons_of_mem _ wF_X3_80) rfl dX3_storeArrives_20 ?_
    refine nf_last (pc := 23) hC hM 1 (xS_7 (by first | assumption | omega)) rfl sl hse (by omega) (by decide) dX3_storeArrives_23 (fun H locs hM => ?_)
    exact hret _ _ _ _ _ _ _ rfl (by rw [xs_stJ, if_neg h1, hse, nI_clamp (by omega)]) rfl hM dX3_storeArrives_24
set_option maxHeartbeats 4000000 in
set_option maxRecDepth 100000 in
theorem ct_X3_fetchArrives {i o : Nat} (hs : I 3 0 1 = nI sz) (hsz : sz < 20) (hmp : ∀ j, j < 21 → mp j < 21) (hk : I 0 0 3 = nI kc) (hkk : kc ≤ 10) (hi : i < nn) (ho : o < 21) : nf_Tv l yX3_fetchArrives wsX3_fetchArrives 2 45 D vwCl (xT cs) Bs (xS cs nn) ad [.ref (ad 0 0), .ref (ad 5 i), .ref (ad 8 o)] I J (xP nn mp) (xs_feI I o (mp sz)) (xs_feJ I J kc i o (mp sz)) (xP nn mp) := by
  refine nf_enterv (cc := cX3_fetchArrives) (maxL := 4) (by decide) rfl (Nat.le_of_ble_eq_true rfl) ?_
  intro p e s m below meth c ls Q hC hM hl hret
  have hx := hC.1.1
  have hb := hC.1.2.1
  have hl : lv_has ls 4 [(0, .ref (ad 0 0)), (1, .ref (ad 5 i)), (2, .ref (ad 8 o))] := hl
  have hinX0 : ∀ w ∈ u_ws RX0 TX0 9, w ∈ wsX3_fetchArrives := fun w h => List.mem_cons_of_mem _ (inX0 w h)
  have hinX3 : ∀ w ∈ u_ws RX3 TX3 5, w ∈ wsX3_fetchArrives := fun w h => List.mem_cons_of_mem _ (inX3 w h)
  have hon := hmp sz (by omega)
  refine lv_aload_n (pc := 0) hx hb dX3_fetchArrives_0 rfl (lv_at hl 0 rfl) ?_
  refine nf_getr (pc := 1) hC hinX3 hM rfl rfl 4 (by decide) (List.mem_cons_of_mem _ wF_X3_29) rfl dX3_fetchArrives_1 ?_
  refine lv_iconst (pc := 4) (v := 5) hx hb dX3_fetchArrives_4 (by decide) ?_
  refine lv_aload_n (pc := 5) hx hb dX3_fetchArrives_5 rfl (lv_at hl 2 rfl) ?_
  refine nf_geti (pc := 6) hC hinX0 hM (xS_8 (by first | assumption | omega)) rfl 2 (by decide) (List.mem_cons_of_mem _ wF_X3_150) rfl dX3_fetchArrives_6 ?_
  refine nf_callq (pc := 9) (va_runV (As := [.int 5, .int (I 8 o 2)]) (rest := []) hC.1 (ct_X2_send (kd := 5) (tz := (I 8 o 2)) (sz := sz) hs hsz hmp) (cwV 2 hC.1.2.2.2.2 (gd_V wM_X3_58 wi_X2_send wsel_X2_send wini_X2 wcode_X2_send) rfl rfl rfl (by decide +kernel) ⟨by decide, by decide⟩) (nf_preV hC hM rfl rfl) rfl rfl hl.1 rfl (lv_room (Nat.le_of_ble_eq_true rfl)) dX3_fetchArrives_9 ⟨Nat.le_refl _, Nat.le_refl _⟩) hM (fun H locs hM => ?_)
  refine W.eq (g2 := F0 m 12 ls [.ref (ad 8 (mp sz))]) rfl ?_
  refine lv_astore_n (pc := 12) (lv' := [(3, .ref (ad 8 (mp sz))), (0, .ref (ad 0 0)), (1, .ref (ad 5 i)), (2, .ref (ad 8 o))]) hx hb dX3_fetchArrives_12 rfl hl (by decide) rfl (fun ls hl => ?_)
  refine lv_aload_n (pc := 13) hx hb dX3_fetchArrives_13 rfl (lv_at hl 0 rfl) ?_
  refine lv_aload_n (pc := 14) hx hb dX3_fetchArrives_14 rfl (lv_at hl 1 rfl) ?_
  refine lv_aload_n (pc := 15) hx hb dX3_fetchArrives_15 rfl (lv_at hl 2 rfl) ?_
  refine lv_aload_n (pc := 16) hx hb dX3_fetchArrives_16 rfl (lv_at hl 3 rfl) ?_
  refine nf_geti (pc := 17) hC hinX0 hM (xS_8 (by first | assumption | omega)) rfl 4 (by decide) (List.mem_cons_of_mem _ wF_X3_156) rfl dX3_fetchArrives_17 ?_
  refine nf_calll (pc := 20) (va_runV (As := [.ref (ad 5 i), .int ((xs_sI I (mp sz) 5 (I 8 o 2)) 8 o 4)]) (rest := [.ref (ad 8 (mp sz))]) hC.1 (ct_X3_valueAt (i := i) (key := ((xs_sI I (mp sz) 5 (I 8 o 2)) 8 o 4)) (by simpa [xs_sI, nf_iu] using hk) hkk (by first | assumption | omega)) (cwV 2 hC.1.2.2.2.2 (gd_V wM_X3_109 wi_X3_valueAt wsel_X3_valueAt wini_X3 wcode_X3_valueAt) rfl rfl rfl (by decide +kernel) ⟨by decide, by decide⟩) (nf_preV hC hM rfl rfl) rfl rfl hl.1 rfl (lv_room (Nat.le_of_ble_eq_true rfl)) dX3_fetchArrives_20 ⟨Nat.le_refl _, Nat.le_refl _⟩) hM (fun H locs hM => ?_)
  refine nf_putl (pc := 23) hC hinX0 tyX0 tyX0_ok nmX0 hM (xS_8 (by first | assumption | omega)) rfl 8 (by decide) (List.mem_cons_of_mem _ wF_X3_80) rfl (by decide +kernel) rfl dX3_fetchArrives_23 (fun H locs hM => ?_)
  refine lv_aload_n (pc := 26) hx hb dX3_fetchArrives_26 rfl (lv_at hl 0 rfl) ?_
  refine lv_aload_n (pc := 27) hx hb dX3_fetchArrives_27 rfl (lv_at hl 3 rfl) ?_
  refine nf_geti (pc := 28) hC hinX0 hM (xS_8 (by first | assumption | omega)) rfl 7 (by decide) (List.mem_cons_of_mem _ wF_X3_175) rfl dX3_fetchArrives_28 ?_
  refine nf_puti (pc := 31) hC hinX0 tyX0 tyX0_ok nmX0 hM (xS_8 (by first | assumption | omega)) rfl 7 (by decide) (List.mem_cons_of_mem _ wF_X3_175) rfl (by decide +kernel) rfl dX3_fetchArrives_31 (fun H locs hM => ?_)
  exact hret _ _ _ _ _ _ _ rfl rfl rfl hM dX3_fetchArrives_34
set_option maxHeartbeats 4000000 in
set_option maxRecDepth 100000 in
theorem ct_X3_askArrives {i o : Nat} (hs : I 3 0 1 = nI sz) (hsz : sz < 20) (hmp : ∀ j, j < 21 → mp j < 21) (hi : i < nn) (ho : o < 21) : nf_Tv l yX3_askArrives wsX3_askArrives 1 23 D vwCl (xT cs) Bs (xS cs nn) ad [.ref (ad 0 0), .ref (ad 5 i), .ref (ad 8 o)] I J (xP nn mp) (xs_asI I i o (mp sz)) (xs_sJ J (mp sz)) (xP nn mp) := by
  refine nf_enterv (cc := cX3_askArrives) (maxL := 4) (by decide) rfl (Nat.le_of_ble_eq_true rfl) ?_
  intro p e s m below meth c ls Q hC hM hl hret
  have hx := hC.1.1
  have hb := hC.1.2.1
  have hl : lv_has ls 4 [(0, .ref (ad 0 0)), (1, .ref (ad 5 i)), (2, .ref (ad 8 o))] := hl
  have hinX0 : ∀ w ∈ u_ws RX0 TX0 9, w ∈ wsX3_askArrives := fun w h => List.mem_cons_of_mem _ (inX0 w h)
  have hinX1 : ∀ w ∈ u_ws RX1 TX1 7, w ∈ wsX3_askArrives := fun w h => List.mem_cons_of_mem _ (inX1 w h)
  have hinX3 : ∀ w ∈ u_ws RX3 TX3 5, w ∈ wsX3_askArrives := fun w h => List.mem_cons_of_mem _ (inX3 w h)
  have hon := hmp sz (by omega)
  refine lv_aload_n (pc := 0) hx hb dX3_askArrives_0 rfl (lv_at hl 0 rfl) ?_
  refine nf_getr (pc := 1) hC hinX3 hM rfl rfl 4 (by decide) (List.mem_cons_of_mem _ wF_X3_29) rfl dX3_askArrives_1 ?_
  refine lv_bipush (pc := 4) (v := 7) hx hb dX3_askArrives_4 (by decide) ?_
  refine lv_aload_n (pc := 6) hx hb dX3_askArrives_6 rfl (lv_at hl 2 rfl) ?_
  refine nf_geti (pc := 7) hC hinX0 hM (xS_8 (by first | assumption | omega)) rfl 6 (by decide) (List.mem_cons_of_mem _ wF_X3_62) rfl dX3_askArrives_7 ?_
  refine nf_callq (pc := 10) (va_runV (As := [.int 7, .int (I 8 o 6)]) (rest := []) hC.1 (ct_X2_send (kd := 7) (tz := (I 8 o 6)) (sz := sz) hs hsz hmp) (cwV 2 hC.1.2.2.2.2 (gd_V wM_X3_58 wi_X2_send wsel_X2_send wini_X2 wcode_X2_send) rfl rfl rfl (by decide +kernel) ⟨by decide, by decide⟩) (nf_preV hC hM rfl rfl) rfl rfl hl.1 rfl (lv_room (Nat.le_of_ble_eq_true rfl)) dX3_askArrives_10 ⟨Nat.le_refl _, Nat.le_refl _⟩) hM (fun H locs hM => ?_)
  refine W.eq (g2 := F0 m 13 ls [.ref (ad 8 (mp sz))]) rfl ?_
  refine lv_astore_n (pc := 13) (lv' := [(3, .ref (ad 8 (mp sz))), (0, .ref (ad 0 0)), (1, .ref (ad 5 i)), (2, .ref (ad 8 o))]) hx hb dX3_askArrives_13 rfl hl (by decide) rfl (fun ls hl => ?_)
  refine lv_aload_n (pc := 14) hx hb dX3_askArrives_14 rfl (lv_at hl 0 rfl) ?_
  refine lv_aload_n (pc := 15) hx hb dX3_askArrives_15 rfl (lv_at hl 2 rfl) ?_
  refine nf_geti (pc := 16) hC hinX1 hM (xS_5 (by first | assumption | omega)) rfl 2 (by decide) (List.mem_cons_of_mem _ wF_X3_101) rfl dX3_askArrives_16 ?_
  refine nf_puti (pc := 19) hC hinX0 tyX0 tyX0_ok nmX0 hM (xS_8 (by first | assumption | omega)) rfl 6 (by decide) (List.mem_cons_of_mem _ wF_X3_62) rfl (by decide +kernel) rfl dX3_askArrives_19 (fun H locs hM => ?_)
  exact hret _ _ _ _ _ _ _ rfl rfl rfl hM dX3_askArrives_22
set_option maxHeartbeats 4000000 in
set_option maxRecDepth 100000 in
theorem ct_X3_tellArrives {i o : Nat} (hs : I 3 0 1 = nI sz) (hsz : sz < 20) (hmp : ∀ j, j < 21 → mp j < 21) (hi : i < nn) (ho : o < 21) : nf_Tv l yX3_tellArrives wsX3_tellArrives 2 43 D vwCl (xT cs) Bs (xS cs nn) ad [.ref (ad 0 0), .ref (ad 5 i), .ref (ad 8 o)] I J (xP nn mp) (xs_teI I i o (mp sz)) (xs_sJ J (mp sz)) (xP nn mp) := by
  refine nf_enterv (cc := cX3_tellArrives) (maxL := 4) (by decide) rfl (Nat.le_of_ble_eq_true rfl) ?_
  intro p e s m below meth c ls Q hC hM hl hret
  have hx := hC.1.1
  have hb := hC.1.2.1
  have hl : lv_has ls 4 [(0, .ref (ad 0 0)), (1, .ref (ad 5 i)), (2, .ref (ad 8 o))] := hl
  have hinX0 : ∀ w ∈ u_ws RX0 TX0 9, w ∈ wsX3_tellArrives := fun w h => List.mem_cons_of_mem _ (inX0 w h)
  have hinX1 : ∀ w ∈ u_ws RX1 TX1 7, w ∈ wsX3_tellArrives := fun w h => List.mem_cons_of_mem _ (inX1 w h)
  have hinX3 : ∀ w ∈ u_ws RX3 TX3 5, w ∈ wsX3_tellArrives := fun w h => List.mem_cons_of_mem _ (inX3 w h)
  have hon := hmp sz (by omega)
  refine lv_aload_n (pc := 0) hx hb dX3_tellArrives_0 rfl (lv_at hl 2 rfl) ?_
  refine nf_geti (pc := 1) hC hinX0 hM (xS_8 (by first | assumption | omega)) rfl 6 (by decide) (List.mem_cons_of_mem _ wF_X3_62) rfl dX3_tellArrives_1 ?_
  refine lv_iconst (pc := 4) (v := -1) hx hb dX3_tellArrives_4 (by decide) ?_
  refine lv_icmp_eq (pc := 5) (tgt := 34) hx hb dX3_tellArrives_5 (by decide) (fun h1 => ?_) (fun h1 => ?_)
  · skip
    refine lv_aload_n (pc := 34) hx hb dX3_tellArrives_34 rfl (lv_at hl 0 rfl) ?_
    refine nf_getr (pc := 35) hC hinX3 hM rfl rfl 4 (by decide) (List.mem_cons_of_mem _ wF_X3_29) rfl dX3_tellArrives_35 ?_
    refine lv_bipush (pc := 38) (v := 8) hx hb dX3_tellArrives_38 (by decide) ?_
    refine lv_aload_n (pc := 40) hx hb dX3_tellArrives_40 rfl (lv_at hl 1 rfl) ?_
    refine nf_geti (pc := 41) hC hinX1 hM (xS_5 (by first | assumption | omega)) rfl 1 (by decide) (List.mem_cons_of_mem _ wF_X3_41) rfl dX3_tellArrives_41 ?_
    refine nf_callq (pc := 44) (va_runV (As := [.int 8, .int (I 5 i 1)]) (rest := []) hC.1 (ct_X2_send (kd := 8) (tz := (I 5 i 1)) (sz := sz) (by simpa [nf_iu] using hs) hsz hmp) (cwV 2 hC.1.2.2.2.2 (gd_V wM_X3_58 wi_X2_send wsel_X2_send wini_X2 wcode_X2_send) rfl rfl rfl (by decide +kernel) ⟨by decide, by decide⟩) (nf_preV hC hM rfl rfl) rfl rfl hl.1 rfl (lv_room (Nat.le_of_ble_eq_true rfl)) dX3_tellArrives_44 ⟨Nat.le_refl _, Nat.le_refl _⟩) hM (fun H locs hM => ?_)
    refine W.eq (g2 := F0 m 47 ls [.ref (ad 8 (mp sz))]) rfl ?_
    refine lv_astore_n (pc := 47) (lv' := [(3, .ref (ad 8 (mp sz))), (0, .ref (ad 0 0)), (1, .ref (ad 5 i)), (2, .ref (ad 8 o))]) hx hb dX3_tellArrives_47 rfl hl (by decide) rfl (fun ls hl => ?_)
    refine lv_aload_n (pc := 48) hx hb dX3_tellArrives_48 rfl (lv_at hl 0 rfl) ?_
    refine lv_aload_n (pc := 49) hx hb dX3_tellArrives_49 rfl (lv_at hl 2 rfl) ?_
    refine nf_geti (pc := 50) hC hinX1 hM (xS_5 (by first | assumption | omega)) rfl 0 (by decide) (List.mem_cons_of_mem _ wF_X3_135) rfl dX3_tellArrives_50 ?_
    refine nf_puti (pc := 53) hC hinX0 tyX0 tyX0_ok nmX0 hM (xS_8 (by first | assumption | omega)) rfl 6 (by decide) (List.mem_cons_of_mem _ wF_X3_62) rfl (by decide +kernel) rfl dX3_tellArrives_53 (fun H locs hM => ?_)
    exact hret _ _ _ _ _ _ _ (by simp [xs_teI, xs_teS, h1] <;> rfl) rfl rfl hM dX3_tellArrives_56
  · skip
    refine lv_aload_n (pc := 8) hx hb dX3_tellArrives_8 rfl (lv_at hl 1 rfl) ?_
    refine nf_geti (pc := 9) hC hinX1 hM (xS_5 (by first | assumption | omega)) rfl 0 (by decide) (List.mem_cons_of_mem _ wF_X3_135) rfl dX3_tellArrives_9 ?_
    refine lv_aload_n (pc := 12) hx hb dX3_tellArrives_12 rfl (lv_at hl 1 rfl) ?_
    refine nf_geti (pc := 13) hC hinX1 hM (xS_5 (by first | assumption | omega)) rfl 1 (by decide) (List.mem_cons_of_mem _ wF_X3_41) rfl dX3_tellArrives_13 ?_
    refine lv_aload_n (pc := 16) hx hb dX3_tellArrives_16 rfl (lv_at hl 2 rfl) ?_
    refine nf_geti (pc := 17) hC hinX0 hM (xS_8 (by first | assumption | omega)) rfl 6 (by decide) (List.mem_cons_of_mem _ wF_X3_62) rfl dX3_tellArrives_17 ?_
    refine nf_calli (pc := 20) (va_runS (As := [.int (I 5 i 0), .int (I 5 i 1), .int (I 8 o 6)]) (rest := []) hC.1 (ct_X3_isBetween) (cwS 3 hC.1.2.2.2.2 (gd_S wM_X3_196 wst_X3_isBetween wini_X3 wcode_X3_isBetween) rfl rfl rfl (by decide +kernel) ⟨by decide, by decide⟩) (nf_preS hC hM) rfl rfl hl.1 rfl (lv_room (Nat.le_of_ble_eq_true rfl)) dX3_tellArrives_20 ⟨Nat.le_refl _, Nat.le_refl _⟩) hM (fun H locs hM => ?_)
    refine lv_if_eq (pc := 23) (tgt := 34) hx hb dX3_tellArrives_23 (by decide) (fun h2 => ?_) (fun h2 => ?_)
    · have h2 := nb_0 h2
      refine lv_aload_n (pc := 34) hx hb dX3_tellArrives_34 rfl (lv_at hl 0 rfl) ?_
      refine nf_getr (pc := 35) hC hinX3 hM rfl rfl 4 (by decide) (List.mem_cons_of_mem _ wF_X3_29) rfl dX3_tellArrives_35 ?_
      refine lv_bipush (pc := 38) (v := 8) hx hb dX3_tellArrives_38 (by decide) ?_
      refine lv_aload_n (pc := 40) hx hb dX3_tellArrives_40 rfl (lv_at hl 1 rfl) ?_
      refine nf_geti (pc := 41) hC hinX1 hM (xS_5 (by first | assumption | omega)) rfl 1 (by decide) (List.mem_cons_of_mem _ wF_X3_41) rfl dX3_tellArrives_41 ?_
      refine nf_callq (pc := 44) (va_runV (As := [.int 8, .int (I 5 i 1)]) (rest := []) hC.1 (ct_X2_send (kd := 8) (tz := (I 5 i 1)) (sz := sz) (by simpa [nf_iu] using hs) hsz hmp) (cwV 2 hC.1.2.2.2.2 (gd_V wM_X3_58 wi_X2_send wsel_X2_send wini_X2 wcode_X2_send) rfl rfl rfl (by decide +kernel) ⟨by decide, by decide⟩) (nf_preV hC hM rfl rfl) rfl rfl hl.1 rfl (lv_room (Nat.le_of_ble_eq_true rfl)) dX3_tellArrives_44 ⟨Nat.le_refl _, Nat.le_refl _⟩) hM (fun H locs hM => ?_)
      refine W.eq (g2 := F0 m 47 ls [.ref (ad 8 (mp sz))]) rfl ?_
      refine lv_astore_n (pc := 47) (lv' := [(3, .ref (ad 8 (mp sz))), (0, .ref (ad 0 0)), (1, .ref (ad 5 i)), (2, .ref (ad 8 o))]) hx hb dX3_tellArrives_47 rfl hl (by decide) rfl (fun ls hl => ?_)
      refine lv_aload_n (pc := 48) hx hb dX3_tellArrives_48 rfl (lv_at hl 0 rfl) ?_
      refine lv_aload_n (pc := 49) hx hb dX3_tellArrives_49 rfl (lv_at hl 2 rfl) ?_
      refine nf_geti (pc := 50) hC hinX1 hM (xS_5 (by first | assumption | omega)) rfl 0 (by decide) (List.mem_cons_of_mem _ wF_X3_135) rfl dX3_tellArrives_50 ?_
      refine nf_puti (pc := 53) hC hinX0 tyX0 tyX0_ok nmX0 hM (xS_8 (by first | assumption | omega)) rfl 6 (by decide) (List.mem_cons_of_mem _ wF_X3_62) rfl (by decide +kernel) rfl dX3_tellArrives_53 (fun H locs hM => ?_)
      exact hret _ _ _ _ _ _ _ (by simp [xs_teI, xs_teS, h1, h2] <;> rfl) rfl rfl hM dX3_tellArrives_56
    · have h2 := nb_1 h2
      refine lv_aload_n (pc := 26) hx hb dX3_tellArrives_26 rfl (lv_at hl 1 rfl) ?_
      refine lv_aload_n (pc := 27) hx hb dX3_tellArrives_27 rfl (lv_at hl 2 rfl) ?_
      refine nf_geti (pc := 28) hC hinX0 hM (xS_8 (by first | assumption | omega)) rfl 6 (by decide) (List.mem_cons_of_mem _ wF_X3_62) rfl dX3_tellArrives_28 ?_
      refine nf_puti (pc := 31) hC hinX1 tyX1 tyX1_ok nmX1 hM (xS_5 (by first | assumption | omega)) rfl 1 (by decide) (List.mem_cons_of_mem _ wF_X3_41) rfl (by decide +kernel) rfl dX3_tellArrives_31 (fun H locs hM => ?_)
      refine lv_aload_n (pc := 34) hx hb dX3_tellArrives_34 rfl (lv_at hl 0 rfl) ?_
      refine nf_getr (pc := 35) hC hinX3 hM rfl rfl 4 (by decide) (List.mem_cons_of_mem _ wF_X3_29) rfl dX3_tellArrives_35 ?_
      refine lv_bipush (pc := 38) (v := 8) hx hb dX3_tellArrives_38 (by decide) ?_
      refine lv_aload_n (pc := 40) hx hb dX3_tellArrives_40 rfl (lv_at hl 1 rfl) ?_
      refine nf_geti (pc := 41) hC hinX1 hM (xS_5 (by first | assumption | omega)) rfl 1 (by decide) (List.mem_cons_of_mem _ wF_X3_41) rfl dX3_tellArrives_41 ?_
      refine nf_callq (pc := 44) (va_runV (As := [.int 8, .int ((nf_iu I 5 i 1 (I 8 o 6)) 5 i 1)]) (rest := []) hC.1 (ct_X2_send (kd := 8) (tz := ((nf_iu I 5 i 1 (I 8 o 6)) 5 i 1)) (sz := sz) (by simpa [nf_iu] using hs) hsz hmp) (cwV 2 hC.1.2.2.2.2 (gd_V wM_X3_58 wi_X2_send wsel_X2_send wini_X2 wcode_X2_send) rfl rfl rfl (by decide +kernel) ⟨by decide, by decide⟩) (nf_preV hC hM rfl rfl) rfl rfl hl.1 rfl (lv_room (Nat.le_of_ble_eq_true rfl)) dX3_tellArrives_44 ⟨Nat.le_refl _, Nat.le_refl _⟩) hM (fun H locs hM => ?_)
      refine W.eq (g2 := F0 m 47 ls [.ref (ad 8 (mp sz))]) rfl ?_
      refine lv_astore_n (pc := 47) (lv' := [(3, .ref (ad 8 (mp sz))), (0, .ref (ad 0 0)), (1, .ref (ad 5 i)), (2, .ref (ad 8 o))]) hx hb dX3_tellArrives_47 rfl hl (by decide) rfl (fun ls hl => ?_)
      refine lv_aload_n (pc := 48) hx hb dX3_tellArrives_48 rfl (lv_at hl 0 rfl) ?_
      refine lv_aload_n (pc := 49) hx hb dX3_tellArrives_49 rfl (lv_at hl 2 rfl) ?_
      refine nf_geti (pc := 50) hC hinX1 hM (xS_5 (by first | assumption | omega)) rfl 0 (by decide) (List.mem_cons_of_mem _ wF_X3_135) rfl dX3_tellArrives_50 ?_
      refine nf_puti (pc := 53) hC hinX0 tyX0 tyX0_ok nmX0 hM (xS_8 (by first | assumption | omega)) rfl 6 (by decide) (List.mem_cons_of_mem _ wF_X3_62) rfl (by decide +kernel) rfl dX3_tellArrives_53 (fun H locs hM => ?_)
      exact hret _ _ _ _ _ _ _ (by simp [xs_teI, xs_teS, h1, h2] <;> rfl) rfl rfl hM dX3_tellArrives_56
set_option maxHeartbeats 4000000 in
set_option maxRecDepth 100000 in
theorem ct_X3_handOver_n {i : Nat}  : nf_Tv l yX3_handOver wsX3_handOver 2 43 D vwCl (xT cs) Bs (xS cs nn) ad [.ref (ad 0 0), .ref (ad 5 i), .null] I J (xP nn mp) I J (xP nn mp) := by
  refine nf_enterv (cc := cX3_handOver) (maxL := 4) (by decide) rfl (Nat.le_of_ble_eq_true rfl) ?_
  intro p e s m below meth c ls Q hC hM hl hret
  have hx := hC.1.1
  have hb := hC.1.2.1
  have hl : lv_has ls 4 [(0, .ref (ad 0 0)), (1, .ref (ad 5 i)), (2, .null)] := hl
  have hinX1 : ∀ w ∈ u_ws RX1 TX1 7, w ∈ wsX3_handOver := fun w h => List.mem_cons_of_mem _ (inX1 w h)
  have hinX3 : ∀ w ∈ u_ws RX3 TX3 5, w ∈ wsX3_handOver := fun w h => List.mem_cons_of_mem _ (inX3 w h)
  refine lv_aload_nN (pc := 0) hx hb dX3_handOver_0 rfl (lv_at hl 2 rfl) ?_
  refine lv_ifnonnullN (pc := 1) hx hb dX3_handOver_1 ?_
  exact hret _ _ _ _ _ _ _ rfl rfl rfl hM dX3_handOver_4
set_option maxHeartbeats 4000000 in
set_option maxRecDepth 100000 in
theorem ct_X3_handOver {i b : Nat} (hk : I 0 0 3 = nI kc) (hkk : kc ≤ 10) (hi : i < nn) (hbn : b < nn) : nf_Tv l yX3_handOver wsX3_handOver 2 43 D vwCl (xT cs) Bs (xS cs nn) ad [.ref (ad 0 0), .ref (ad 5 i), .ref (ad 5 b)] I J (xP nn mp) I (xs_hoJ I i b kc 0 J) (xP nn mp) := by
  refine nf_enterv (cc := cX3_handOver) (maxL := 4) (by decide) rfl (Nat.le_of_ble_eq_true rfl) ?_
  intro p e s m below meth c ls Q hC hM hl hret
  have hx := hC.1.1
  have hb := hC.1.2.1
  have hl : lv_has ls 4 [(0, .ref (ad 0 0)), (1, .ref (ad 5 i)), (2, .ref (ad 5 b))] := hl
  have hinX1 : ∀ w ∈ u_ws RX1 TX1 7, w ∈ wsX3_handOver := fun w h => List.mem_cons_of_mem _ (inX1 w h)
  have hinX3 : ∀ w ∈ u_ws RX3 TX3 5, w ∈ wsX3_handOver := fun w h => List.mem_cons_of_mem _ (inX3 w h)
  refine lv_aload_n (pc := 0) hx hb dX3_handOver_0 rfl (lv_at hl 2 rfl) ?_
  refine lv_ifnonnull (pc := 1) (tgt := 5) hx hb dX3_handOver_1 (by decide) ?_
  refine lv_iconst (pc := 5) (v := 0) hx hb dX3_handOver_5 (by decide) ?_
  refine lv_istore_n (pc := 6) (lv' := [(3, .int 0), (0, .ref (ad 0 0)), (1, .ref (ad 5 i)), (2, .ref (ad 5 b))]) hx hb dX3_handOver_6 rfl hl (by decide) rfl (fun ls hl => ?_)
  have loop7 : ∀ (n : Nat) (j : Nat) (J2 : nf_J) (ls : Array Slot) (H : Heap) (locs : List Loc), kc - j < n → (j ≤ kc) → (xs_hoJ I i b kc 0 J = xs_hoJ I i b (kc - j) j J2) → nf_M D vwCl Bs (xS cs nn) ad I J2 (xP nn mp) s.heap H locs → lv_has ls 4 [(3, .int (nI j)), (0, .ref (ad 0 0)), (1, .ref (ad 5 i)), (2, .ref (ad 5 b))] → W p l e (nf_Rm 2 43) s m ([.ref (ad 0 0), .ref (ad 5 i), .ref (ad 5 b)] : List Value).toArray below meth c H locs 0 0 Q (F0 m 7 ls []) := by
    intro n
    induction n with
    | zero => exact fun _ _ _ _ _ hmz => absurd hmz (Nat.not_lt_zero _)
    | succ n ihloop7 =>
      intro j J2 ls H locs hmz hjn hf hM hl
      refine lv_iload_n (pc := 7) hx hb dX3_handOver_7 rfl (lv_at hl 0 rfl) ?_
      refine lv_aload_n (pc := 8) hx hb dX3_handOver_8 rfl (lv_at hl 1 rfl) ?_
      refine nf_geti (pc := 9) hC hinX3 hM rfl rfl 3 (by decide) (List.mem_cons_of_mem _ wF_X3_23) rfl dX3_handOver_9 ?_
      refine lv_icmp_ge (pc := 12) (tgt := 75) hx hb dX3_handOver_12 (by decide) (fun hh => ?_) (fun hh => ?_)
      · have hj1 : kc ≤ j := (nI_leI (by omega) (by omega)).mp (by rw [hk] at hh; exact hh)
        exact hret _ _ _ _ _ _ _ rfl (by rw [hf, show kc - j = 0 by omega]; rfl) rfl hM dX3_handOver_75
      · have hj1 : j < kc := Nat.lt_of_not_le (fun z => hh (by rw [hk]; exact (nI_leI (by omega) (by omega)).mpr z))
        refine lv_aload_n (pc := 15) hx hb dX3_handOver_15 rfl (lv_at hl 2 rfl) ?_
        refine nf_getr (pc := 16) hC hinX1 hM (xS_5 (by first | assumption | omega)) rfl 4 (by decide) (List.mem_cons_of_mem _ wF_X3_113) rfl dX3_handOver_16 ?_
        refine lv_iload_n (pc := 19) hx hb dX3_handOver_19 rfl (lv_at hl 0 rfl) ?_
        refine nf_lald (pc := 20) hC hM 1 (xS_7 (by first | assumption | omega)) rfl j rfl (by omega) (by decide) dX3_handOver_20 ?_
        refine lv_ldc2 (pc := 21) (v := 4294967296) hx hb hC.1.2.2.2.1 (hC.1.2.2.2.2 _ (List.mem_cons_of_mem _ wC_X3_107)) dX3_handOver_21 ?_
        refine W.lcmp (pc := 24) hx hb dX3_handOver_24 ?_
        refine lv_if_eq (pc := 25) (tgt := 69) hx hb dX3_handOver_25 (by decide) (fun h2 => ?_) (fun h2 => ?_)
        · skip
          refine lv_iinc (pc := 69) (k := 0) (v := nI (j + 1)) (lv' := [(3, .int (nI (j + 1))), (0, .ref (ad 0 0)), (1, .ref (ad 5 i)), (2, .ref (ad 5 b))]) hx hb dX3_handOver_69 hl rfl (nI_1 _) (by decide) rfl (fun ls hl => ?_)
          refine lv_goto (pc := 72) (tgt := 7) hx hb dX3_handOver_72 (by decide) ?_
          exact ihloop7 (j + 1) J2 ls _ _ (by omega) (by omega) (by rw [hf, show kc - j = (kc - (j + 1)) + 1 by omega, xs_hoJ]; congr 1; simp [h2]) hM hl
        · skip
          refine lv_aload_n (pc := 28) hx hb dX3_handOver_28 rfl (lv_at hl 3 rfl) ?_
          refine nf_geti (pc := 29) hC hinX1 hM (xS_5 (by first | assumption | omega)) rfl 0 (by decide) (List.mem_cons_of_mem _ wF_X3_135) rfl dX3_handOver_29 ?_
          refine lv_aload_n (pc := 32) hx hb dX3_handOver_32 rfl (lv_at hl 2 rfl) ?_
          refine nf_geti (pc := 33) hC hinX1 hM (xS_5 (by first | assumption | omega)) rfl 0 (by decide) (List.mem_cons_of_mem _ wF_X3_135) rfl dX3_handOver_33 ?_
          refine lv_aload_n (pc := 36) hx hb dX3_handOver_36 rfl (lv_at hl 1 rfl) ?_
          refine nf_getr (pc := 37) hC hinX3 hM rfl rfl 2 (by decide) (List.mem_cons_of_mem _ wF_X3_19) rfl dX3_handOver_37 ?_
          refine lv_iload_n (pc := 40) hx hb dX3_handOver_40 rfl (lv_at hl 0 rfl) ?_
          refine nf_iald (pc := 41) hC hM 0 rfl rfl j rfl (by omega) (by decide) dX3_handOver_41 ?_
          refine nf_calli (pc := 42) (va_runS (As := [.int (I 5 b 0), .int (I 5 i 0), .int (I 2 0 j)]) (rest := []) hC.1 (ct_X3_isPastUpTo) (cwS 3 hC.1.2.2.2.2 (gd_S wM_X3_185 wst_X3_isPastUpTo wini_X3 wcode_X3_isPastUpTo) rfl rfl rfl (by decide +kernel) ⟨by decide, by decide⟩) (nf_preS hC hM) rfl rfl hl.1 rfl (lv_room (Nat.le_of_ble_eq_true rfl)) dX3_handOver_42 ⟨Nat.le_refl _, Nat.le_refl _⟩) hM (fun H locs hM => ?_)
          refine lv_if_ne (pc := 45) (tgt := 69) hx hb dX3_handOver_45 (by decide) (fun h3 => ?_) (fun h3 => ?_)
          · have h3 := nb_1 h3
            refine lv_iinc (pc := 69) (k := 0) (v := nI (j + 1)) (lv' := [(3, .int (nI (j + 1))), (0, .ref (ad 0 0)), (1, .ref (ad 5 i)), (2, .ref (ad 5 b))]) hx hb dX3_handOver_69 hl rfl (nI_1 _) (by decide) rfl (fun ls hl => ?_)
            refine lv_goto (pc := 72) (tgt := 7) hx hb dX3_handOver_72 (by decide) ?_
            exact ihloop7 (j + 1) J2 ls _ _ (by omega) (by omega) (by rw [hf, show kc - j = (kc - (j + 1)) + 1 by omega, xs_hoJ]; congr 1; simp [h2, h3]) hM hl
          · have h3 := nb_0 h3
            refine lv_aload_n (pc := 48) hx hb dX3_handOver_48 rfl (lv_at hl 3 rfl) ?_
            refine nf_getr (pc := 49) hC hinX1 hM (xS_5 (by first | assumption | omega)) rfl 4 (by decide) (List.mem_cons_of_mem _ wF_X3_113) rfl dX3_handOver_49 ?_
            refine lv_iload_n (pc := 52) hx hb dX3_handOver_52 rfl (lv_at hl 0 rfl) ?_
            refine lv_aload_n (pc := 53) hx hb dX3_handOver_53 rfl (lv_at hl 2 rfl) ?_
            refine nf_getr (pc := 54) hC hinX1 hM (xS_5 (by first | assumption | omega)) rfl 4 (by decide) (List.mem_cons_of_mem _ wF_X3_113) rfl dX3_handOver_54 ?_
            refine lv_iload_n (pc := 57) hx hb dX3_handOver_57 rfl (lv_at hl 0 rfl) ?_
            refine nf_lald (pc := 58) hC hM 1 (xS_7 (by first | assumption | omega)) rfl j rfl (by omega) (by decide) dX3_handOver_58 ?_
            refine nf_last (pc := 59) hC hM 1 (xS_7 (by first | assumption | omega)) rfl j rfl (by omega) (by decide) dX3_handOver_59 (fun H locs hM => ?_)
            refine lv_aload_n (pc := 60) hx hb dX3_handOver_60 rfl (lv_at hl 2 rfl) ?_
            refine nf_getr (pc := 61) hC hinX1 hM (xS_5 (by first | assumption | omega)) rfl 4 (by decide) (List.mem_cons_of_mem _ wF_X3_113) rfl dX3_handOver_61 ?_
            refine lv_iload_n (pc := 64) hx hb dX3_handOver_64 rfl (lv_at hl 0 rfl) ?_
            refine lv_ldc2 (pc := 65) (v := 4294967296) hx hb hC.1.2.2.2.1 (hC.1.2.2.2.2 _ (List.mem_cons_of_mem _ wC_X3_107)) dX3_handOver_65 ?_
            refine nf_last (pc := 68) hC hM 1 (xS_7 (by first | assumption | omega)) rfl j rfl (by omega) (by decide) dX3_handOver_68 (fun H locs hM => ?_)
            refine lv_iinc (pc := 69) (k := 0) (v := nI (j + 1)) (lv' := [(3, .int (nI (j + 1))), (0, .ref (ad 0 0)), (1, .ref (ad 5 i)), (2, .ref (ad 5 b))]) hx hb dX3_handOver_69 hl rfl (nI_1 _) (by decide) rfl (fun ls hl => ?_)
            refine lv_goto (pc := 72) (tgt := 7) hx hb dX3_handOver_72 (by decide) ?_
            exact ihloop7 (j + 1) (nf_ju (nf_ju J2 7 b j (J2 7 i j)) 7 i j 4294967296) ls _ _ (by omega) (by omega) (by rw [hf, show kc - j = (kc - (j + 1)) + 1 by omega, xs_hoJ]; congr 1; simp [h2, h3]) hM hl
  exact loop7 _ 0 J ls _ _ (Nat.lt_succ_self _) (Nat.zero_le _) rfl hM hl
set_option maxHeartbeats 4000000 in
set_option maxRecDepth 100000 in
theorem ct_X3_notifyArrives {i o : Nat} (hn : I 0 0 1 = nI nn) (hnn : nn ≤ 12) (hk : I 0 0 3 = nI kc) (hkk : kc ≤ 10) (hi : i < nn) (ho : o < 21) : nf_Tv l yX3_notifyArrives wsX3_notifyArrives 3 66 D vwCl (xT cs) Bs (xS cs nn) ad [.ref (ad 0 0), .ref (ad 5 i), .ref (ad 8 o)] I J (xP nn mp) (xs_noI I i o) (xs_noJ I J nn kc i o) (xP nn mp) := by
  refine nf_enterv (cc := cX3_notifyArrives) (maxL := 3) (by decide) rfl (Nat.le_of_ble_eq_true rfl) ?_
  intro p e s m below meth c ls Q hC hM hl hret
  have hx := hC.1.1
  have hb := hC.1.2.1
  have hl : lv_has ls 3 [(0, .ref (ad 0 0)), (1, .ref (ad 5 i)), (2, .ref (ad 8 o))] := hl
  have hinX0 : ∀ w ∈ u_ws RX0 TX0 9, w ∈ wsX3_notifyArrives := fun w h => List.mem_cons_of_mem _ (inX0 w h)
  have hinX1 : ∀ w ∈ u_ws RX1 TX1 7, w ∈ wsX3_notifyArrives := fun w h => List.mem_cons_of_mem _ (inX1 w h)
  refine lv_aload_n (pc := 0) hx hb dX3_notifyArrives_0 rfl (lv_at hl 1 rfl) ?_
  refine nf_geti (pc := 1) hC hinX1 hM (xS_5 (by first | assumption | omega)) rfl 2 (by decide) (List.mem_cons_of_mem _ wF_X3_101) rfl dX3_notifyArrives_1 ?_
  refine lv_iconst (pc := 4) (v := -1) hx hb dX3_notifyArrives_4 (by decide) ?_
  refine lv_icmp_eq (pc := 5) (tgt := 26) hx hb dX3_notifyArrives_5 (by decide) (fun h1 => ?_) (fun h1 => ?_)
  · skip
    refine lv_aload_n (pc := 26) hx hb dX3_notifyArrives_26 rfl (lv_at hl 1 rfl) ?_
    refine lv_aload_n (pc := 27) hx hb dX3_notifyArrives_27 rfl (lv_at hl 2 rfl) ?_
    refine nf_geti (pc := 28) hC hinX0 hM (xS_8 (by first | assumption | omega)) rfl 6 (by decide) (List.mem_cons_of_mem _ wF_X3_62) rfl dX3_notifyArrives_28 ?_
    refine nf_puti (pc := 31) hC hinX1 tyX1 tyX1_ok nmX1 hM (xS_5 (by first | assumption | omega)) rfl 2 (by decide) (List.mem_cons_of_mem _ wF_X3_101) rfl (by decide +kernel) rfl dX3_notifyArrives_31 (fun H locs hM => ?_)
    refine lv_aload_n (pc := 34) hx hb dX3_notifyArrives_34 rfl (lv_at hl 0 rfl) ?_
    refine lv_aload_n (pc := 35) hx hb dX3_notifyArrives_35 rfl (lv_at hl 1 rfl) ?_
    refine lv_aload_n (pc := 36) hx hb dX3_notifyArrives_36 rfl (lv_at hl 0 rfl) ?_
    refine lv_aload_n (pc := 37) hx hb dX3_notifyArrives_37 rfl (lv_at hl 2 rfl) ?_
    refine nf_geti (pc := 38) hC hinX0 hM (xS_8 (by first | assumption | omega)) rfl 6 (by decide) (List.mem_cons_of_mem _ wF_X3_62) rfl dX3_notifyArrives_38 ?_
    refine nf_callq (pc := 41) (va_runV (As := [.int ((nf_iu I 5 i 2 (I 8 o 6)) 8 o 6)]) (rest := [.ref (ad 5 i), .ref (ad 0 0)]) hC.1 (ct_X3_nodeWith (id := ((nf_iu I 5 i 2 (I 8 o 6)) 8 o 6)) (by simpa [nf_iu] using hn) hnn) (cwV 1 hC.1.2.2.2.2 (gd_V wM_X3_44 wi_X3_nodeWith wsel_X3_nodeWith wini_X3 wcode_X3_nodeWith) rfl rfl rfl (by decide +kernel) ⟨by decide, by decide⟩) (nf_preV hC hM rfl rfl) rfl rfl hl.1 rfl (lv_room (Nat.le_of_ble_eq_true rfl)) dX3_notifyArrives_41 ⟨Nat.le_refl _, Nat.le_refl _⟩) hM (fun H locs hM => ?_)
    cases hq2 : xs_node (nf_iu I 5 i 2 (I 8 o 6)) nn ((nf_iu I 5 i 2 (I 8 o 6)) 8 o 6) with
    | none =>
      simp only [hq2, Option.map_none, va_rf]
      refine nf_callv (pc := 44) (va_runV (As := [.ref (ad 5 i), .null]) (rest := []) hC.1 (ct_X3_handOver_n) (cwV 2 hC.1.2.2.2.2 (gd_V wM_X3_199 wi_X3_handOver wsel_X3_handOver wini_X3 wcode_X3_handOver) rfl rfl rfl (by decide +kernel) ⟨by decide, by decide⟩) (nf_preV hC hM rfl rfl) rfl rfl hl.1 rfl (lv_room (Nat.le_of_ble_eq_true rfl)) dX3_notifyArrives_44 ⟨Nat.le_refl _, Nat.le_refl _⟩) hM (fun H locs hM => ?_)
      exact hret _ _ _ _ _ _ _ (by simp [xs_noI, h1, hq2] <;> rfl) (by simp [xs_noJ, xs_no1, h1, hq2] <;> rfl) rfl hM dX3_notifyArrives_47
    | some i3 =>
      simp only [hq2, Option.map_some, va_rf]
      have hq2l := xs_node_lt hq2
      refine nf_callv (pc := 44) (va_runV (As := [.ref (ad 5 i), .ref (ad 5 i3)]) (rest := []) hC.1 (ct_X3_handOver (i := i) (b := i3) (by simpa [nf_iu] using hk) hkk (by first | assumption | omega) (by first | assumption | omega)) (cwV 2 hC.1.2.2.2.2 (gd_V wM_X3_199 wi_X3_handOver wsel_X3_handOver wini_X3 wcode_X3_handOver) rfl rfl rfl (by decide +kernel) ⟨by decide, by decide⟩) (nf_preV hC hM rfl rfl) rfl rfl hl.1 rfl (lv_room (Nat.le_of_ble_eq_true rfl)) dX3_notifyArrives_44 ⟨Nat.le_refl _, Nat.le_refl _⟩) hM (fun H locs hM => ?_)
      exact hret _ _ _ _ _ _ _ (by simp [xs_noI, h1, hq2] <;> rfl) (by simp [xs_noJ, xs_no1, h1, hq2] <;> rfl) rfl hM dX3_notifyArrives_47
  · skip
    refine lv_aload_n (pc := 8) hx hb dX3_notifyArrives_8 rfl (lv_at hl 1 rfl) ?_
    refine nf_geti (pc := 9) hC hinX1 hM (xS_5 (by first | assumption | omega)) rfl 2 (by decide) (List.mem_cons_of_mem _ wF_X3_101) rfl dX3_notifyArrives_9 ?_
    refine lv_aload_n (pc := 12) hx hb dX3_notifyArrives_12 rfl (lv_at hl 1 rfl) ?_
    refine nf_geti (pc := 13) hC hinX1 hM (xS_5 (by first | assumption | omega)) rfl 0 (by decide) (List.mem_cons_of_mem _ wF_X3_135) rfl dX3_notifyArrives_13 ?_
    refine lv_aload_n (pc := 16) hx hb dX3_notifyArrives_16 rfl (lv_at hl 2 rfl) ?_
    refine nf_geti (pc := 17) hC hinX0 hM (xS_8 (by first | assumption | omega)) rfl 6 (by decide) (List.mem_cons_of_mem _ wF_X3_62) rfl dX3_notifyArrives_17 ?_
    refine nf_calli (pc := 20) (va_runS (As := [.int (I 5 i 2), .int (I 5 i 0), .int (I 8 o 6)]) (rest := []) hC.1 (ct_X3_isBetween) (cwS 3 hC.1.2.2.2.2 (gd_S wM_X3_196 wst_X3_isBetween wini_X3 wcode_X3_isBetween) rfl rfl rfl (by decide +kernel) ⟨by decide, by decide⟩) (nf_preS hC hM) rfl rfl hl.1 rfl (lv_room (Nat.le_of_ble_eq_true rfl)) dX3_notifyArrives_20 ⟨Nat.le_refl _, Nat.le_refl _⟩) hM (fun H locs hM => ?_)
    refine lv_if_eq (pc := 23) (tgt := 47) hx hb dX3_notifyArrives_23 (by decide) (fun h4 => ?_) (fun h4 => ?_)
    · have h4 := nb_0 h4
      exact hret _ _ _ _ _ _ _ (by simp [xs_noI, h1, h4] <;> rfl) (by simp [xs_noJ, xs_no1, h1, h4] <;> rfl) rfl hM dX3_notifyArrives_47
    · have h4 := nb_1 h4
      refine lv_aload_n (pc := 26) hx hb dX3_notifyArrives_26 rfl (lv_at hl 1 rfl) ?_
      refine lv_aload_n (pc := 27) hx hb dX3_notifyArrives_27 rfl (lv_at hl 2 rfl) ?_
      refine nf_geti (pc := 28) hC hinX0 hM (xS_8 (by first | assumption | omega)) rfl 6 (by decide) (List.mem_cons_of_mem _ wF_X3_62) rfl dX3_notifyArrives_28 ?_
      refine nf_puti (pc := 31) hC hinX1 tyX1 tyX1_ok nmX1 hM (xS_5 (by first | assumption | omega)) rfl 2 (by decide) (List.mem_cons_of_mem _ wF_X3_101) rfl (by decide +kernel) rfl dX3_notifyArrives_31 (fun H locs hM => ?_)
      refine lv_aload_n (pc := 34) hx hb dX3_notifyArrives_34 rfl (lv_at hl 0 rfl) ?_
      refine lv_aload_n (pc := 35) hx hb dX3_notifyArrives_35 rfl (lv_at hl 1 rfl) ?_
      refine lv_aload_n (pc := 36) hx hb dX3_notifyArrives_36 rfl (lv_at hl 0 rfl) ?_
      refine lv_aload_n (pc := 37) hx hb dX3_notifyArrives_37 rfl (lv_at hl 2 rfl) ?_
      refine nf_geti (pc := 38) hC hinX0 hM (xS_8 (by first | assumption | omega)) rfl 6 (by decide) (List.mem_cons_of_mem _ wF_X3_62) rfl dX3_notifyArrives_38 ?_
      refine nf_callq (pc := 41) (va_runV (As := [.int ((nf_iu I 5 i 2 (I 8 o 6)) 8 o 6)]) (rest := [.ref (ad 5 i), .ref (ad 0 0)]) hC.1 (ct_X3_nodeWith (id := ((nf_iu I 5 i 2 (I 8 o 6)) 8 o 6)) (by simpa [nf_iu] using hn) hnn) (cwV 1 hC.1.2.2.2.2 (gd_V wM_X3_44 wi_X3_nodeWith wsel_X3_nodeWith wini_X3 wcode_X3_nodeWith) rfl rfl rfl (by decide +kernel) ⟨by decide, by decide⟩) (nf_preV hC hM rfl rfl) rfl rfl hl.1 rfl (lv_room (Nat.le_of_ble_eq_true rfl)) dX3_notifyArrives_41 ⟨Nat.le_refl _, Nat.le_refl _⟩) hM (fun H locs hM => ?_)
      cases hq5 : xs_node (nf_iu I 5 i 2 (I 8 o 6)) nn ((nf_iu I 5 i 2 (I 8 o 6)) 8 o 6) with
      | none =>
        simp only [hq5, Option.map_none, va_rf]
        refine nf_callv (pc := 44) (va_runV (As := [.ref (ad 5 i), .null]) (rest := []) hC.1 (ct_X3_handOver_n) (cwV 2 hC.1.2.2.2.2 (gd_V wM_X3_199 wi_X3_handOver wsel_X3_handOver wini_X3 wcode_X3_handOver) rfl rfl rfl (by decide +kernel) ⟨by decide, by decide⟩) (nf_preV hC hM rfl rfl) rfl rfl hl.1 rfl (lv_room (Nat.le_of_ble_eq_true rfl)) dX3_notifyArrives_44 ⟨Nat.le_refl _, Nat.le_refl _⟩) hM (fun H locs hM => ?_)
        exact hret _ _ _ _ _ _ _ (by simp [xs_noI, h1, h4, hq5] <;> rfl) (by simp [xs_noJ, xs_no1, h1, h4, hq5] <;> rfl) rfl hM dX3_notifyArrives_47
      | some i6 =>
        simp only [hq5, Option.map_some, va_rf]
        have hq5l := xs_node_lt hq5
        refine nf_callv (pc := 44) (va_runV (As := [.ref (ad 5 i), .ref (ad 5 i6)]) (rest := []) hC.1 (ct_X3_handOver (i := i) (b := i6) (by simpa [nf_iu] using hk) hkk (by first | assumption | omega) (by first | assumption | omega)) (cwV 2 hC.1.2.2.2.2 (gd_V wM_X3_199 wi_X3_handOver wsel_X3_handOver wini_X3 wcode_X3_handOver) rfl rfl rfl (by decide +kernel) ⟨by decide, by decide⟩) (nf_preV hC hM rfl rfl) rfl rfl hl.1 rfl (lv_room (Nat.le_of_ble_eq_true rfl)) dX3_notifyArrives_44 ⟨Nat.le_refl _, Nat.le_refl _⟩) hM (fun H locs hM => ?_)
        exact hret _ _ _ _ _ _ _ (by simp [xs_noI, h1, h4, hq5] <;> rfl) (by simp [xs_noJ, xs_no1, h1, h4, hq5] <;> rfl) rfl hM dX3_notifyArrives_47
end XB
end
section
/-! arrive, deliver. -/
section XD
variable {l : Launch} {D : va_G} {cs : Nat → ClassId} {Bs nn sz kc : Nat} {ad : nf_A} {I : nf_I} {J : nf_J} {mp : Nat → Nat}
set_option maxHeartbeats 4000000 in
set_option maxRecDepth 100000 in
theorem ct_X3_arrive {k : Int32} (hn : I 0 0 1 = nI nn) (hnn : nn ≤ 12) (hk : I 0 0 3 = nI kc) (hkk : kc ≤ 10) (hs : I 3 0 1 = nI sz) (hsz : sz ≤ 20) (hmp : ∀ j, j < 21 → mp j < 21) : nf_Ti l yX3_arrive wsX3_arrive 5 112 D vwCl (xT cs) Bs (xS cs nn) ad [.ref (ad 0 0), .int k] I J (xP nn mp) ((xs_arr I J mp nn kc k).1) ((xs_arr I J mp nn kc k).2.1) ((xs_arr I J mp nn kc k).2.2.1) (xP nn (xs_arr I J mp nn kc k).2.2.2) := by
  refine nf_enteri (cc := cX3_arrive) (maxL := 4) (by decide) rfl (Nat.le_of_ble_eq_true rfl) ?_
  intro p e s m below meth c ls Q hC hM hl hret
  have hx := hC.1.1
  have hb := hC.1.2.1
  have hl : lv_has ls 4 [(0, .ref (ad 0 0)), (1, .int k)] := hl
  have hinX0 : ∀ w ∈ u_ws RX0 TX0 9, w ∈ wsX3_arrive := fun w h => List.mem_cons_of_mem _ (inX0 w h)
  have hinX1 : ∀ w ∈ u_ws RX1 TX1 7, w ∈ wsX3_arrive := fun w h => List.mem_cons_of_mem _ (inX1 w h)
  have hinX3 : ∀ w ∈ u_ws RX3 TX3 5, w ∈ wsX3_arrive := fun w h => List.mem_cons_of_mem _ (inX3 w h)
  refine lv_aload_n (pc := 0) hx hb dX3_arrive_0 rfl (lv_at hl 0 rfl) ?_
  refine nf_getr (pc := 1) hC hinX3 hM rfl rfl 4 (by decide) (List.mem_cons_of_mem _ wF_X3_29) rfl dX3_arrive_1 ?_
  refine lv_iload_n (pc := 4) hx hb dX3_arrive_4 rfl (lv_at hl 1 rfl) ?_
  refine nf_callq (pc := 5) (va_runV (As := [.int k]) (rest := []) hC.1 (ct_X2_takeOut (k := k) (sz := sz) hs (by omega) hmp) (cwV 1 hC.1.2.2.2.2 (gd_V wM_X3_159 wi_X2_takeOut wsel_X2_takeOut wini_X2 wcode_X2_takeOut) rfl rfl rfl (by decide +kernel) ⟨by decide, by decide⟩) (nf_preV hC hM rfl rfl) rfl rfl hl.1 rfl (lv_room (Nat.le_of_ble_eq_true rfl)) dX3_arrive_5 ⟨Nat.le_refl _, Nat.le_refl _⟩) hM (fun H locs hM => ?_)
  cases hqt : xs_at I mp k with
  | none =>
    simp only [hqt, Option.map_none, va_rf]
    have hM : nf_M D vwCl Bs (xS cs nn) ad I J (xP nn mp) s.heap H locs := by simpa [xs_toI, xs_toM, hqt] using hM
    refine lv_astore_nN (pc := 8) (lv' := [(2, .null), (0, .ref (ad 0 0)), (1, .int k)]) hx hb dX3_arrive_8 rfl hl (by decide) rfl (fun ls hl => ?_)
    refine lv_aload_nN (pc := 9) hx hb dX3_arrive_9 rfl (lv_at hl 0 rfl) ?_
    refine lv_ifnonnullN (pc := 10) hx hb dX3_arrive_10 ?_
    refine lv_iconst (pc := 13) (v := -1) hx hb dX3_arrive_13 (by decide) ?_
    exact hret _ _ _ _ _ _ _ _ (by simp [xs_arr, hqt]) (by simp [xs_arr, hqt]) (by simp [xs_arr, hqt]) (by simp [xs_arr, hqt]) hM dX3_arrive_14
  | some o =>
    simp only [hqt, Option.map_some, va_rf]
    obtain ⟨kn, hkn, hke, hko⟩ := xs_at_ix hs (by omega) hqt
    have ho := xs_at_lt hs hsz hmp hqt
    obtain ⟨I1, hI1⟩ : ∃ I1, I1 = nf_iu I 3 0 1 (I 3 0 1 - 1) := ⟨_, rfl⟩
    obtain ⟨M1, hM1⟩ : ∃ M1, M1 = xs_tk mp k.toNatClampNeg := ⟨_, rfl⟩
    have hM : nf_M D vwCl Bs (xS cs nn) ad I1 J (xP nn M1) s.heap H locs := by rw [hI1, hM1]; simpa [xs_toI, xs_toM, hqt] using hM
    have hs1 : I1 3 0 1 = nI (sz - 1) := by rw [hI1, nf_iu_s, hs, show sz = (sz - 1) + 1 by omega, nI_pred]; rfl
    have hn1 : I1 0 0 1 = nI nn := by rw [hI1, nf_iu_n _ _ (by omega)]; exact hn
    have hk1 : I1 0 0 3 = nI kc := by rw [hI1, nf_iu_n _ _ (by omega)]; exact hk
    have hmp1 : ∀ j, j < 21 → M1 j < 21 := by rw [hM1, hke, nI_clamp (by omega)]; exact xs_tk_lt hmp (by omega)
    have hsz1 : sz - 1 < 20 := by omega
    refine lv_astore_n (pc := 8) (lv' := [(2, .ref (ad 8 o)), (0, .ref (ad 0 0)), (1, .int k)]) hx hb dX3_arrive_8 rfl hl (by decide) rfl (fun ls hl => ?_)
    refine lv_aload_n (pc := 9) hx hb dX3_arrive_9 rfl (lv_at hl 0 rfl) ?_
    refine lv_ifnonnull (pc := 10) (tgt := 15) hx hb dX3_arrive_10 (by decide) ?_
    refine lv_aload_n (pc := 15) hx hb dX3_arrive_15 rfl (lv_at hl 1 rfl) ?_
    refine lv_aload_n (pc := 16) hx hb dX3_arrive_16 rfl (lv_at hl 0 rfl) ?_
    refine nf_geti (pc := 17) hC hinX0 hM (xS_8 (by first | assumption | omega)) rfl 1 (by decide) (List.mem_cons_of_mem _ wF_X3_98) rfl dX3_arrive_17 ?_
    refine nf_callq (pc := 20) (va_runV (As := [.int (I1 8 o 1)]) (rest := []) hC.1 (ct_X3_nodeWith (id := (I1 8 o 1)) hn1 hnn) (cwV 1 hC.1.2.2.2.2 (gd_V wM_X3_44 wi_X3_nodeWith wsel_X3_nodeWith wini_X3 wcode_X3_nodeWith) rfl rfl rfl (by decide +kernel) ⟨by decide, by decide⟩) (nf_preV hC hM rfl rfl) rfl rfl hl.1 rfl (lv_room (Nat.le_of_ble_eq_true rfl)) dX3_arrive_20 ⟨Nat.le_refl _, Nat.le_refl _⟩) hM (fun H locs hM => ?_)
    cases hq1 : xs_node I1 nn (I1 8 o 1) with
    | none =>
      simp only [hq1, Option.map_none, va_rf]
      refine lv_astore_nN (pc := 23) (lv' := [(3, .null), (2, .ref (ad 8 o)), (0, .ref (ad 0 0)), (1, .int k)]) hx hb dX3_arrive_23 rfl hl (by decide) rfl (fun ls hl => ?_)
      refine lv_aload_nN (pc := 24) hx hb dX3_arrive_24 rfl (lv_at hl 0 rfl) ?_
      refine lv_ifnonnullN (pc := 25) hx hb dX3_arrive_25 ?_
      refine lv_aload_n (pc := 28) hx hb dX3_arrive_28 rfl (lv_at hl 1 rfl) ?_
      refine nf_geti (pc := 29) hC hinX0 hM (xS_8 (by first | assumption | omega)) rfl 0 (by decide) (List.mem_cons_of_mem _ wF_X3_95) rfl dX3_arrive_29 ?_
      exact hret _ _ _ _ _ _ _ _ (by rw [xs_arr_n hqt hI1 hM1 hq1]) (by rw [xs_arr_n hqt hI1 hM1 hq1]) (by rw [xs_arr_n hqt hI1 hM1 hq1]) (by rw [xs_arr_n hqt hI1 hM1 hq1]) hM dX3_arrive_32
    | some i2 =>
      simp only [hq1, Option.map_some, va_rf]
      have hq1l := xs_node_lt hq1
      refine lv_astore_n (pc := 23) (lv' := [(3, .ref (ad 5 i2)), (2, .ref (ad 8 o)), (0, .ref (ad 0 0)), (1, .int k)]) hx hb dX3_arrive_23 rfl hl (by decide) rfl (fun ls hl => ?_)
      refine lv_aload_n (pc := 24) hx hb dX3_arrive_24 rfl (lv_at hl 0 rfl) ?_
      refine lv_ifnonnull (pc := 25) (tgt := 33) hx hb dX3_arrive_25 (by decide) ?_
      refine lv_aload_n (pc := 33) hx hb dX3_arrive_33 rfl (lv_at hl 1 rfl) ?_
      refine nf_geti (pc := 34) hC hinX0 hM (xS_8 (by first | assumption | omega)) rfl 0 (by decide) (List.mem_cons_of_mem _ wF_X3_95) rfl dX3_arrive_34 ?_
      rcases nk_sw7 (I1 8 o 0) with hc | hc | hc | hc | hc | hc | hc | ⟨hc, hc1, hc2, hc3, hc4, hc5, hc6, hc7⟩
      · refine lv_tableIn (pc := 37) (off := 43) (tgt := 80) hx hb dX3_arrive_37 (by rw [hc]; decide) (by rw [hc]; decide) (by rw [hc]; decide) (by decide) ?_
        refine lv_aload_n (pc := 80) hx hb dX3_arrive_80 rfl (lv_at hl 2 rfl) ?_
        refine lv_aload_n (pc := 81) hx hb dX3_arrive_81 rfl (lv_at hl 0 rfl) ?_
        refine lv_aload_n (pc := 82) hx hb dX3_arrive_82 rfl (lv_at hl 1 rfl) ?_
        refine nf_callv (pc := 83) (va_runV (As := [.ref (ad 5 i2), .ref (ad 8 o)]) (rest := []) hC.1 (ct_X3_findArrives (i := i2) (o := o) (sz := sz - 1) hs1 hsz1 hmp1 (by first | assumption | omega) (by first | assumption | omega)) (cwV 2 hC.1.2.2.2.2 (gd_V wM_X3_162 wi_X3_findArrives wsel_X3_findArrives wini_X3 wcode_X3_findArrives) rfl rfl rfl (by decide +kernel) ⟨by decide, by decide⟩) (nf_preV hC hM rfl rfl) rfl rfl hl.1 rfl (lv_room (Nat.le_of_ble_eq_true rfl)) dX3_arrive_83 ⟨Nat.le_refl _, Nat.le_refl _⟩) hM (fun H locs hM => ?_)
        refine lv_goto (pc := 86) (tgt := 159) hx hb dX3_arrive_86 (by decide) ?_
        refine lv_aload_n (pc := 159) hx hb dX3_arrive_159 rfl (lv_at hl 1 rfl) ?_
        refine nf_geti (pc := 160) hC hinX0 hM (xS_8 (by first | assumption | omega)) rfl 0 (by decide) (List.mem_cons_of_mem _ wF_X3_95) rfl dX3_arrive_160 ?_
        exact hret _ _ _ _ _ _ _ _ (by rw [xs_arr_s hqt hI1 hM1 hq1 hs1 (by omega)]; simp [xs_aI, hc] <;> rfl) (by rw [xs_arr_s hqt hI1 hM1 hq1 hs1 (by omega)]; simp [xs_aI, hc] <;> rfl) (by rw [xs_arr_s hqt hI1 hM1 hq1 hs1 (by omega)]; simp [xs_aJ, hc] <;> rfl) (by rw [xs_arr_s hqt hI1 hM1 hq1 hs1 (by omega)]) hM dX3_arrive_163
      · refine lv_tableIn (pc := 37) (off := 52) (tgt := 89) hx hb dX3_arrive_37 (by rw [hc]; decide) (by rw [hc]; decide) (by rw [hc]; decide) (by decide) ?_
        refine lv_aload_n (pc := 89) hx hb dX3_arrive_89 rfl (lv_at hl 2 rfl) ?_
        refine lv_aload_n (pc := 90) hx hb dX3_arrive_90 rfl (lv_at hl 0 rfl) ?_
        refine lv_aload_n (pc := 91) hx hb dX3_arrive_91 rfl (lv_at hl 1 rfl) ?_
        refine nf_callv (pc := 92) (va_runV (As := [.ref (ad 5 i2), .ref (ad 8 o)]) (rest := []) hC.1 (ct_X3_foundArrives (i := i2) (o := o) (by first | assumption | omega) (by first | assumption | omega)) (cwV 2 hC.1.2.2.2.2 (gd_V wM_X3_166 wi_X3_foundArrives wsel_X3_foundArrives wini_X3 wcode_X3_foundArrives) rfl rfl rfl (by decide +kernel) ⟨by decide, by decide⟩) (nf_preV hC hM rfl rfl) rfl rfl hl.1 rfl (lv_room (Nat.le_of_ble_eq_true rfl)) dX3_arrive_92 ⟨Nat.le_refl _, Nat.le_refl _⟩) hM (fun H locs hM => ?_)
        refine lv_goto (pc := 95) (tgt := 159) hx hb dX3_arrive_95 (by decide) ?_
        refine lv_aload_n (pc := 159) hx hb dX3_arrive_159 rfl (lv_at hl 1 rfl) ?_
        refine nf_geti (pc := 160) hC hinX0 hM (xS_8 (by first | assumption | omega)) rfl 0 (by decide) (List.mem_cons_of_mem _ wF_X3_95) rfl dX3_arrive_160 ?_
        exact hret _ _ _ _ _ _ _ _ (by rw [xs_arr_s hqt hI1 hM1 hq1 hs1 (by omega)]; simp [xs_aI, hc] <;> rfl) (by rw [xs_arr_s hqt hI1 hM1 hq1 hs1 (by omega)]; simp [xs_aI, hc] <;> rfl) (by rw [xs_arr_s hqt hI1 hM1 hq1 hs1 (by omega)]; simp [xs_aJ, hc] <;> rfl) (by rw [xs_arr_s hqt hI1 hM1 hq1 hs1 (by omega)]) hM dX3_arrive_163
      · refine lv_tableIn (pc := 37) (off := 61) (tgt := 98) hx hb dX3_arrive_37 (by rw [hc]; decide) (by rw [hc]; decide) (by rw [hc]; decide) (by decide) ?_
        refine lv_aload_n (pc := 98) hx hb dX3_arrive_98 rfl (lv_at hl 2 rfl) ?_
        refine lv_aload_n (pc := 99) hx hb dX3_arrive_99 rfl (lv_at hl 0 rfl) ?_
        refine lv_aload_n (pc := 100) hx hb dX3_arrive_100 rfl (lv_at hl 1 rfl) ?_
        refine nf_callv (pc := 101) (va_runV (As := [.ref (ad 5 i2), .ref (ad 8 o)]) (rest := []) hC.1 (ct_X3_storeArrives (i := i2) (o := o) hk1 hkk (by first | assumption | omega) (by first | assumption | omega)) (cwV 2 hC.1.2.2.2.2 (gd_V wM_X3_169 wi_X3_storeArrives wsel_X3_storeArrives wini_X3 wcode_X3_storeArrives) rfl rfl rfl (by decide +kernel) ⟨by decide, by decide⟩) (nf_preV hC hM rfl rfl) rfl rfl hl.1 rfl (lv_room (Nat.le_of_ble_eq_true rfl)) dX3_arrive_101 ⟨Nat.le_refl _, Nat.le_refl _⟩) hM (fun H locs hM => ?_)
        refine lv_goto (pc := 104) (tgt := 159) hx hb dX3_arrive_104 (by decide) ?_
        refine lv_aload_n (pc := 159) hx hb dX3_arrive_159 rfl (lv_at hl 1 rfl) ?_
        refine nf_geti (pc := 160) hC hinX0 hM (xS_8 (by first | assumption | omega)) rfl 0 (by decide) (List.mem_cons_of_mem _ wF_X3_95) rfl dX3_arrive_160 ?_
        exact hret _ _ _ _ _ _ _ _ (by rw [xs_arr_s hqt hI1 hM1 hq1 hs1 (by omega)]; simp [xs_aI, hc] <;> rfl) (by rw [xs_arr_s hqt hI1 hM1 hq1 hs1 (by omega)]; simp [xs_aI, hc] <;> rfl) (by rw [xs_arr_s hqt hI1 hM1 hq1 hs1 (by omega)]; simp [xs_aJ, hc] <;> rfl) (by rw [xs_arr_s hqt hI1 hM1 hq1 hs1 (by omega)]) hM dX3_arrive_163
      · refine lv_tableIn (pc := 37) (off := 70) (tgt := 107) hx hb dX3_arrive_37 (by rw [hc]; decide) (by rw [hc]; decide) (by rw [hc]; decide) (by decide) ?_
        refine lv_aload_n (pc := 107) hx hb dX3_arrive_107 rfl (lv_at hl 2 rfl) ?_
        refine lv_aload_n (pc := 108) hx hb dX3_arrive_108 rfl (lv_at hl 0 rfl) ?_
        refine lv_aload_n (pc := 109) hx hb dX3_arrive_109 rfl (lv_at hl 1 rfl) ?_
        refine nf_callv (pc := 110) (va_runV (As := [.ref (ad 5 i2), .ref (ad 8 o)]) (rest := []) hC.1 (ct_X3_fetchArrives (i := i2) (o := o) (sz := sz - 1) hs1 hsz1 hmp1 hk1 hkk (by first | assumption | omega) (by first | assumption | omega)) (cwV 2 hC.1.2.2.2.2 (gd_V wM_X3_172 wi_X3_fetchArrives wsel_X3_fetchArrives wini_X3 wcode_X3_fetchArrives) rfl rfl rfl (by decide +kernel) ⟨by decide, by decide⟩) (nf_preV hC hM rfl rfl) rfl rfl hl.1 rfl (lv_room (Nat.le_of_ble_eq_true rfl)) dX3_arrive_110 ⟨Nat.le_refl _, Nat.le_refl _⟩) hM (fun H locs hM => ?_)
        refine lv_goto (pc := 113) (tgt := 159) hx hb dX3_arrive_113 (by decide) ?_
        refine lv_aload_n (pc := 159) hx hb dX3_arrive_159 rfl (lv_at hl 1 rfl) ?_
        refine nf_geti (pc := 160) hC hinX0 hM (xS_8 (by first | assumption | omega)) rfl 0 (by decide) (List.mem_cons_of_mem _ wF_X3_95) rfl dX3_arrive_160 ?_
        exact hret _ _ _ _ _ _ _ _ (by rw [xs_arr_s hqt hI1 hM1 hq1 hs1 (by omega)]; simp [xs_aI, hc] <;> rfl) (by rw [xs_arr_s hqt hI1 hM1 hq1 hs1 (by omega)]; simp [xs_aI, hc] <;> rfl) (by rw [xs_arr_s hqt hI1 hM1 hq1 hs1 (by omega)]; simp [xs_aJ, hc] <;> rfl) (by rw [xs_arr_s hqt hI1 hM1 hq1 hs1 (by omega)]) hM dX3_arrive_163
      · refine lv_tableIn (pc := 37) (off := 79) (tgt := 116) hx hb dX3_arrive_37 (by rw [hc]; decide) (by rw [hc]; decide) (by rw [hc]; decide) (by decide) ?_
        refine lv_aload_n (pc := 116) hx hb dX3_arrive_116 rfl (lv_at hl 0 rfl) ?_
        refine lv_aload_n (pc := 117) hx hb dX3_arrive_117 rfl (lv_at hl 1 rfl) ?_
        refine nf_getl (pc := 118) hC hinX0 hM (xS_8 (by first | assumption | omega)) rfl 8 (by decide) (List.mem_cons_of_mem _ wF_X3_80) rfl dX3_arrive_118 ?_
        refine nf_putl (pc := 121) hC hinX1 tyX1 tyX1_ok nmX1 hM (xS_5 (by first | assumption | omega)) rfl 5 (by decide) (List.mem_cons_of_mem _ wF_X3_119) rfl (by decide +kernel) rfl dX3_arrive_121 (fun H locs hM => ?_)
        refine lv_aload_n (pc := 124) hx hb dX3_arrive_124 rfl (lv_at hl 0 rfl) ?_
        refine lv_aload_n (pc := 125) hx hb dX3_arrive_125 rfl (lv_at hl 1 rfl) ?_
        refine nf_geti (pc := 126) hC hinX0 hM (xS_8 (by first | assumption | omega)) rfl 7 (by decide) (List.mem_cons_of_mem _ wF_X3_175) rfl dX3_arrive_126 ?_
        refine nf_puti (pc := 129) hC hinX1 tyX1 tyX1_ok nmX1 hM (xS_5 (by first | assumption | omega)) rfl 6 (by decide) (List.mem_cons_of_mem _ wF_X3_122) rfl (by decide +kernel) rfl dX3_arrive_129 (fun H locs hM => ?_)
        refine lv_goto (pc := 132) (tgt := 159) hx hb dX3_arrive_132 (by decide) ?_
        refine lv_aload_n (pc := 159) hx hb dX3_arrive_159 rfl (lv_at hl 1 rfl) ?_
        refine nf_geti (pc := 160) hC hinX0 hM (xS_8 (by first | assumption | omega)) rfl 0 (by decide) (List.mem_cons_of_mem _ wF_X3_95) rfl dX3_arrive_160 ?_
        exact hret _ _ _ _ _ _ _ _ (by rw [xs_arr_s hqt hI1 hM1 hq1 hs1 (by omega)]; simp [xs_aI, hc] <;> rfl) (by rw [xs_arr_s hqt hI1 hM1 hq1 hs1 (by omega)]; simp [xs_aI, hc] <;> rfl) (by rw [xs_arr_s hqt hI1 hM1 hq1 hs1 (by omega)]; simp [xs_aJ, hc] <;> rfl) (by rw [xs_arr_s hqt hI1 hM1 hq1 hs1 (by omega)]) hM dX3_arrive_163
      · refine lv_tableIn (pc := 37) (off := 98) (tgt := 135) hx hb dX3_arrive_37 (by rw [hc]; decide) (by rw [hc]; decide) (by rw [hc]; decide) (by decide) ?_
        refine lv_aload_n (pc := 135) hx hb dX3_arrive_135 rfl (lv_at hl 2 rfl) ?_
        refine lv_aload_n (pc := 136) hx hb dX3_arrive_136 rfl (lv_at hl 0 rfl) ?_
        refine lv_aload_n (pc := 137) hx hb dX3_arrive_137 rfl (lv_at hl 1 rfl) ?_
        refine nf_callv (pc := 138) (va_runV (As := [.ref (ad 5 i2), .ref (ad 8 o)]) (rest := []) hC.1 (ct_X3_askArrives (i := i2) (o := o) (sz := sz - 1) hs1 hsz1 hmp1 (by first | assumption | omega) (by first | assumption | omega)) (cwV 2 hC.1.2.2.2.2 (gd_V wM_X3_176 wi_X3_askArrives wsel_X3_askArrives wini_X3 wcode_X3_askArrives) rfl rfl rfl (by decide +kernel) ⟨by decide, by decide⟩) (nf_preV hC hM rfl rfl) rfl rfl hl.1 rfl (lv_room (Nat.le_of_ble_eq_true rfl)) dX3_arrive_138 ⟨Nat.le_refl _, Nat.le_refl _⟩) hM (fun H locs hM => ?_)
        refine lv_goto (pc := 141) (tgt := 159) hx hb dX3_arrive_141 (by decide) ?_
        refine lv_aload_n (pc := 159) hx hb dX3_arrive_159 rfl (lv_at hl 1 rfl) ?_
        refine nf_geti (pc := 160) hC hinX0 hM (xS_8 (by first | assumption | omega)) rfl 0 (by decide) (List.mem_cons_of_mem _ wF_X3_95) rfl dX3_arrive_160 ?_
        exact hret _ _ _ _ _ _ _ _ (by rw [xs_arr_s hqt hI1 hM1 hq1 hs1 (by omega)]; simp [xs_aI, hc] <;> rfl) (by rw [xs_arr_s hqt hI1 hM1 hq1 hs1 (by omega)]; simp [xs_aI, hc] <;> rfl) (by rw [xs_arr_s hqt hI1 hM1 hq1 hs1 (by omega)]; simp [xs_aJ, hc] <;> rfl) (by rw [xs_arr_s hqt hI1 hM1 hq1 hs1 (by omega)]) hM dX3_arrive_163
      · refine lv_tableIn (pc := 37) (off := 107) (tgt := 144) hx hb dX3_arrive_37 (by rw [hc]; decide) (by rw [hc]; decide) (by rw [hc]; decide) (by decide) ?_
        refine lv_aload_n (pc := 144) hx hb dX3_arrive_144 rfl (lv_at hl 2 rfl) ?_
        refine lv_aload_n (pc := 145) hx hb dX3_arrive_145 rfl (lv_at hl 0 rfl) ?_
        refine lv_aload_n (pc := 146) hx hb dX3_arrive_146 rfl (lv_at hl 1 rfl) ?_
        refine nf_callv (pc := 147) (va_runV (As := [.ref (ad 5 i2), .ref (ad 8 o)]) (rest := []) hC.1 (ct_X3_tellArrives (i := i2) (o := o) (sz := sz - 1) hs1 hsz1 hmp1 (by first | assumption | omega) (by first | assumption | omega)) (cwV 2 hC.1.2.2.2.2 (gd_V wM_X3_179 wi_X3_tellArrives wsel_X3_tellArrives wini_X3 wcode_X3_tellArrives) rfl rfl rfl (by decide +kernel) ⟨by decide, by decide⟩) (nf_preV hC hM rfl rfl) rfl rfl hl.1 rfl (lv_room (Nat.le_of_ble_eq_true rfl)) dX3_arrive_147 ⟨Nat.le_refl _, Nat.le_refl _⟩) hM (fun H locs hM => ?_)
        refine lv_goto (pc := 150) (tgt := 159) hx hb dX3_arrive_150 (by decide) ?_
        refine lv_aload_n (pc := 159) hx hb dX3_arrive_159 rfl (lv_at hl 1 rfl) ?_
        refine nf_geti (pc := 160) hC hinX0 hM (xS_8 (by first | assumption | omega)) rfl 0 (by decide) (List.mem_cons_of_mem _ wF_X3_95) rfl dX3_arrive_160 ?_
        exact hret _ _ _ _ _ _ _ _ (by rw [xs_arr_s hqt hI1 hM1 hq1 hs1 (by omega)]; simp [xs_aI, hc] <;> rfl) (by rw [xs_arr_s hqt hI1 hM1 hq1 hs1 (by omega)]; simp [xs_aI, hc] <;> rfl) (by rw [xs_arr_s hqt hI1 hM1 hq1 hs1 (by omega)]; simp [xs_aJ, hc] <;> rfl) (by rw [xs_arr_s hqt hI1 hM1 hq1 hs1 (by omega)]) hM dX3_arrive_163
      · refine lv_tableOut (pc := 37) (tgt := 153) hx hb dX3_arrive_37 hc (by decide) ?_
        refine lv_aload_n (pc := 153) hx hb dX3_arrive_153 rfl (lv_at hl 2 rfl) ?_
        refine lv_aload_n (pc := 154) hx hb dX3_arrive_154 rfl (lv_at hl 0 rfl) ?_
        refine lv_aload_n (pc := 155) hx hb dX3_arrive_155 rfl (lv_at hl 1 rfl) ?_
        refine nf_callv (pc := 156) (va_runV (As := [.ref (ad 5 i2), .ref (ad 8 o)]) (rest := []) hC.1 (ct_X3_notifyArrives (i := i2) (o := o) hn1 hnn hk1 hkk (by first | assumption | omega) (by first | assumption | omega)) (cwV 2 hC.1.2.2.2.2 (gd_V wM_X3_182 wi_X3_notifyArrives wsel_X3_notifyArrives wini_X3 wcode_X3_notifyArrives) rfl rfl rfl (by decide +kernel) ⟨by decide, by decide⟩) (nf_preV hC hM rfl rfl) rfl rfl hl.1 rfl (lv_room (Nat.le_of_ble_eq_true rfl)) dX3_arrive_156 ⟨Nat.le_refl _, Nat.le_refl _⟩) hM (fun H locs hM => ?_)
        refine lv_aload_n (pc := 159) hx hb dX3_arrive_159 rfl (lv_at hl 1 rfl) ?_
        refine nf_geti (pc := 160) hC hinX0 hM (xS_8 (by first | assumption | omega)) rfl 0 (by decide) (List.mem_cons_of_mem _ wF_X3_95) rfl dX3_arrive_160 ?_
        exact hret _ _ _ _ _ _ _ _ (by rw [xs_arr_s hqt hI1 hM1 hq1 hs1 (by omega)]; simp [xs_aI, hc1, hc2, hc3, hc4, hc5, hc6, hc7] <;> rfl) (by rw [xs_arr_s hqt hI1 hM1 hq1 hs1 (by omega)]; simp [xs_aI, hc1, hc2, hc3, hc4, hc5, hc6, hc7] <;> rfl) (by rw [xs_arr_s hqt hI1 hM1 hq1 hs1 (by omega)]; simp [xs_aJ, hc1, hc2, hc3, hc4, hc5, hc6, hc7] <;> rfl) (by rw [xs_arr_s hqt hI1 hM1 hq1 hs1 (by omega)]) hM dX3_arrive_163
set_option maxHeartbeats 4000000 in
set_option maxRecDepth 100000 in
theorem ct_X3_deliver {k : Int32} (hn : I 0 0 1 = nI nn) (hnn : nn ≤ 12) (hk : I 0 0 3 = nI kc) (hkk : kc ≤ 10) (hs : I 3 0 1 = nI sz) (hsz : sz ≤ 20) (hmp : ∀ j, j < 21 → mp j < 21) : nf_Ti l yX3_deliver wsX3_deliver 6 135 D vwCl (xT cs) Bs (xS cs nn) ad [.ref (ad 0 0), .int k] I J (xP nn mp) ((xs_arr I J mp nn kc k).1) ((xs_arr I J mp nn kc k).2.1) ((xs_arr I J mp nn kc k).2.2.1) (xP nn (xs_arr I J mp nn kc k).2.2.2) := by
  refine nf_enteri (cc := cX3_deliver) (maxL := 2) (by decide) rfl (Nat.le_of_ble_eq_true rfl) ?_
  intro p e s m below meth c ls Q hC hM hl hret
  have hx := hC.1.1
  have hb := hC.1.2.1
  have hl : lv_has ls 2 [(0, .ref (ad 0 0)), (1, .int k)] := hl
  refine lv_aload_n (pc := 0) hx hb dX3_deliver_0 rfl (lv_at hl 0 rfl) ?_
  refine lv_iload_n (pc := 1) hx hb dX3_deliver_1 rfl (lv_at hl 1 rfl) ?_
  refine nf_calli (pc := 2) (va_runV (As := [.int k]) (rest := []) hC.1 (ct_X3_arrive (k := k) hn hnn hk hkk hs hsz hmp) (cwV 1 hC.1.2.2.2.2 (gd_V wM_X3_84 wi_X3_arrive wsel_X3_arrive wini_X3 wcode_X3_arrive) rfl rfl rfl (by decide +kernel) ⟨by decide, by decide⟩) (nf_preV hC hM rfl rfl) rfl rfl hl.1 rfl (lv_room (Nat.le_of_ble_eq_true rfl)) dX3_deliver_2 ⟨Nat.le_refl _, Nat.le_refl _⟩) hM (fun H locs hM => ?_)
  exact hret _ _ _ _ _ _ _ _ rfl rfl rfl rfl hM dX3_deliver_5
end XD
end
section
/-! The calls that only read. -/
section XE
variable {l : Launch} {D : va_G} {cs : Nat → ClassId} {Bs nn sz kc : Nat} {ad : nf_A} {I : nf_I} {J : nf_J} {mp : Nat → Nat}
set_option maxHeartbeats 4000000 in
set_option maxRecDepth 100000 in
theorem ct_X3_flying   : nf_Ti l yX3_flying wsX3_flying 0 0 D vwCl (xT cs) Bs (xS cs nn) ad [.ref (ad 0 0)] I J (xP nn mp) (I 3 0 1) I J (xP nn mp) := by
  refine nf_enteri (cc := cX3_flying) (maxL := 1) (by decide) rfl (Nat.le_of_ble_eq_true rfl) ?_
  intro p e s m below meth c ls Q hC hM hl hret
  have hx := hC.1.1
  have hb := hC.1.2.1
  have hl : lv_has ls 1 [(0, .ref (ad 0 0))] := hl
  have hinX2 : ∀ w ∈ u_ws RX2 TX2 2, w ∈ wsX3_flying := fun w h => List.mem_cons_of_mem _ (inX2 w h)
  have hinX3 : ∀ w ∈ u_ws RX3 TX3 5, w ∈ wsX3_flying := fun w h => List.mem_cons_of_mem _ (inX3 w h)
  refine lv_aload_n (pc := 0) hx hb dX3_flying_0 rfl (lv_at hl 0 rfl) ?_
  refine nf_getr (pc := 1) hC hinX3 hM rfl rfl 4 (by decide) (List.mem_cons_of_mem _ wF_X3_29) rfl dX3_flying_1 ?_
  refine nf_geti (pc := 4) hC hinX2 hM rfl rfl 1 (by decide) (List.mem_cons_of_mem _ wF_X3_88) rfl dX3_flying_4 ?_
  exact hret _ _ _ _ _ _ _ _ rfl rfl rfl rfl hM dX3_flying_7
set_option maxHeartbeats 4000000 in
set_option maxRecDepth 100000 in
theorem ct_X3_message {k : Int32} (hs : I 3 0 1 = nI sz) (hsz : sz ≤ 20) (hmp : ∀ j, j < 21 → mp j < 21) : nf_Ti l yX3_message wsX3_message 1 21 D vwCl (xT cs) Bs (xS cs nn) ad [.ref (ad 0 0), .int k] I J (xP nn mp) (xs_msg I mp k) I J (xP nn mp) := by
  refine nf_enteri (cc := cX3_message) (maxL := 3) (by decide) rfl (Nat.le_of_ble_eq_true rfl) ?_
  intro p e s m below meth c ls Q hC hM hl hret
  have hx := hC.1.1
  have hb := hC.1.2.1
  have hl : lv_has ls 3 [(0, .ref (ad 0 0)), (1, .int k)] := hl
  have hinX0 : ∀ w ∈ u_ws RX0 TX0 9, w ∈ wsX3_message := fun w h => List.mem_cons_of_mem _ (inX0 w h)
  have hinX3 : ∀ w ∈ u_ws RX3 TX3 5, w ∈ wsX3_message := fun w h => List.mem_cons_of_mem _ (inX3 w h)
  refine lv_aload_n (pc := 0) hx hb dX3_message_0 rfl (lv_at hl 0 rfl) ?_
  refine nf_getr (pc := 1) hC hinX3 hM rfl rfl 4 (by decide) (List.mem_cons_of_mem _ wF_X3_29) rfl dX3_message_1 ?_
  refine lv_iload_n (pc := 4) hx hb dX3_message_4 rfl (lv_at hl 1 rfl) ?_
  refine nf_callq (pc := 5) (va_runV (As := [.int k]) (rest := []) hC.1 (ct_X2_at (k := k) hs (by omega) hmp) (cwV 1 hC.1.2.2.2.2 (gd_V wM_X3_91 wi_X2_at wsel_X2_at wini_X2 wcode_X2_at) rfl rfl rfl (by decide +kernel) ⟨by decide, by decide⟩) (nf_preV hC hM rfl rfl) rfl rfl hl.1 rfl (lv_room (Nat.le_of_ble_eq_true rfl)) dX3_message_5 ⟨Nat.le_refl _, Nat.le_refl _⟩) hM (fun H locs hM => ?_)
  cases hq1 : xs_at I mp k with
  | none =>
    simp only [hq1, Option.map_none, va_rf]
    refine lv_astore_nN (pc := 8) (lv' := [(2, .null), (0, .ref (ad 0 0)), (1, .int k)]) hx hb dX3_message_8 rfl hl (by decide) rfl (fun ls hl => ?_)
    refine lv_aload_nN (pc := 9) hx hb dX3_message_9 rfl (lv_at hl 0 rfl) ?_
    refine lv_ifnonnullN (pc := 10) hx hb dX3_message_10 ?_
    refine lv_iconst (pc := 13) (v := -1) hx hb dX3_message_13 (by decide) ?_
    refine lv_goto (pc := 14) (tgt := 30) hx hb dX3_message_14 (by decide) ?_
    exact hret _ _ _ _ _ _ _ _ (by simp [nb_I, xs_msg, hq1]) rfl rfl rfl hM dX3_message_30
  | some i2 =>
    simp only [hq1, Option.map_some, va_rf]
    have hq1l := xs_at_lt hs (by omega) hmp hq1
    refine lv_astore_n (pc := 8) (lv' := [(2, .ref (ad 8 i2)), (0, .ref (ad 0 0)), (1, .int k)]) hx hb dX3_message_8 rfl hl (by decide) rfl (fun ls hl => ?_)
    refine lv_aload_n (pc := 9) hx hb dX3_message_9 rfl (lv_at hl 0 rfl) ?_
    refine lv_ifnonnull (pc := 10) (tgt := 17) hx hb dX3_message_10 (by decide) ?_
    refine lv_aload_n (pc := 17) hx hb dX3_message_17 rfl (lv_at hl 0 rfl) ?_
    refine nf_geti (pc := 18) hC hinX0 hM (xS_8 (by first | assumption | omega)) rfl 0 (by decide) (List.mem_cons_of_mem _ wF_X3_95) rfl dX3_message_18 ?_
    refine lv_sipush (pc := 21) (v := 256) hx hb dX3_message_21 (by decide) ?_
    refine lv_imul (pc := 24) hx hb dX3_message_24 ?_
    refine lv_aload_n (pc := 25) hx hb dX3_message_25 rfl (lv_at hl 0 rfl) ?_
    refine nf_geti (pc := 26) hC hinX0 hM (xS_8 (by first | assumption | omega)) rfl 1 (by decide) (List.mem_cons_of_mem _ wF_X3_98) rfl dX3_message_26 ?_
    refine lv_iadd (pc := 29) hx hb dX3_message_29 ?_
    exact hret _ _ _ _ _ _ _ _ (by simp [nb_I, xs_msg, hq1]) rfl rfl rfl hM dX3_message_30
set_option maxHeartbeats 4000000 in
set_option maxRecDepth 100000 in
theorem ct_X3_successor {id : Int32} (hn : I 0 0 1 = nI nn) (hnn : nn ≤ 12) : nf_Ti l yX3_successor wsX3_successor 2 44 D vwCl (xT cs) Bs (xS cs nn) ad [.ref (ad 0 0), .int id] I J (xP nn mp) (xs_rd I nn id 1) I J (xP nn mp) := by
  refine nf_enteri (cc := cX3_successor) (maxL := 3) (by decide) rfl (Nat.le_of_ble_eq_true rfl) ?_
  intro p e s m below meth c ls Q hC hM hl hret
  have hx := hC.1.1
  have hb := hC.1.2.1
  have hl : lv_has ls 3 [(0, .ref (ad 0 0)), (1, .int id)] := hl
  have hinX1 : ∀ w ∈ u_ws RX1 TX1 7, w ∈ wsX3_successor := fun w h => List.mem_cons_of_mem _ (inX1 w h)
  refine lv_aload_n (pc := 0) hx hb dX3_successor_0 rfl (lv_at hl 0 rfl) ?_
  refine lv_iload_n (pc := 1) hx hb dX3_successor_1 rfl (lv_at hl 1 rfl) ?_
  refine nf_callq (pc := 2) (va_runV (As := [.int id]) (rest := []) hC.1 (ct_X3_memberWith (id := id) hn hnn) (cwV 1 hC.1.2.2.2.2 (gd_V wM_X3_47 wi_X3_memberWith wsel_X3_memberWith wini_X3 wcode_X3_memberWith) rfl rfl rfl (by decide +kernel) ⟨by decide, by decide⟩) (nf_preV hC hM rfl rfl) rfl rfl hl.1 rfl (lv_room (Nat.le_of_ble_eq_true rfl)) dX3_successor_2 ⟨Nat.le_refl _, Nat.le_refl _⟩) hM (fun H locs hM => ?_)
  cases hq1 : xs_memb I nn id with
  | none =>
    simp only [hq1, Option.map_none, va_rf]
    refine lv_astore_nN (pc := 5) (lv' := [(2, .null), (0, .ref (ad 0 0)), (1, .int id)]) hx hb dX3_successor_5 rfl hl (by decide) rfl (fun ls hl => ?_)
    refine lv_aload_nN (pc := 6) hx hb dX3_successor_6 rfl (lv_at hl 0 rfl) ?_
    refine lv_ifnonnullN (pc := 7) hx hb dX3_successor_7 ?_
    refine lv_iconst (pc := 10) (v := -1) hx hb dX3_successor_10 (by decide) ?_
    refine lv_goto (pc := 11) (tgt := 18) hx hb dX3_successor_11 (by decide) ?_
    exact hret _ _ _ _ _ _ _ _ (by simp [nb_I, xs_rd, hq1]) rfl rfl rfl hM dX3_successor_18
  | some i2 =>
    simp only [hq1, Option.map_some, va_rf]
    have hq1l := xs_memb_lt hq1
    refine lv_astore_n (pc := 5) (lv' := [(2, .ref (ad 5 i2)), (0, .ref (ad 0 0)), (1, .int id)]) hx hb dX3_successor_5 rfl hl (by decide) rfl (fun ls hl => ?_)
    refine lv_aload_n (pc := 6) hx hb dX3_successor_6 rfl (lv_at hl 0 rfl) ?_
    refine lv_ifnonnull (pc := 7) (tgt := 14) hx hb dX3_successor_7 (by decide) ?_
    refine lv_aload_n (pc := 14) hx hb dX3_successor_14 rfl (lv_at hl 0 rfl) ?_
    refine nf_geti (pc := 15) hC hinX1 hM (xS_5 (by first | assumption | omega)) rfl 1 (by decide) (List.mem_cons_of_mem _ wF_X3_41) rfl dX3_successor_15 ?_
    exact hret _ _ _ _ _ _ _ _ (by simp [nb_I, xs_rd, hq1]) rfl rfl rfl hM dX3_successor_18
set_option maxHeartbeats 4000000 in
set_option maxRecDepth 100000 in
theorem ct_X3_predecessor {id : Int32} (hn : I 0 0 1 = nI nn) (hnn : nn ≤ 12) : nf_Ti l yX3_predecessor wsX3_predecessor 2 44 D vwCl (xT cs) Bs (xS cs nn) ad [.ref (ad 0 0), .int id] I J (xP nn mp) (xs_rd I nn id 2) I J (xP nn mp) := by
  refine nf_enteri (cc := cX3_predecessor) (maxL := 3) (by decide) rfl (Nat.le_of_ble_eq_true rfl) ?_
  intro p e s m below meth c ls Q hC hM hl hret
  have hx := hC.1.1
  have hb := hC.1.2.1
  have hl : lv_has ls 3 [(0, .ref (ad 0 0)), (1, .int id)] := hl
  have hinX1 : ∀ w ∈ u_ws RX1 TX1 7, w ∈ wsX3_predecessor := fun w h => List.mem_cons_of_mem _ (inX1 w h)
  refine lv_aload_n (pc := 0) hx hb dX3_predecessor_0 rfl (lv_at hl 0 rfl) ?_
  refine lv_iload_n (pc := 1) hx hb dX3_predecessor_1 rfl (lv_at hl 1 rfl) ?_
  refine nf_callq (pc := 2) (va_runV (As := [.int id]) (rest := []) hC.1 (ct_X3_memberWith (id := id) hn hnn) (cwV 1 hC.1.2.2.2.2 (gd_V wM_X3_47 wi_X3_memberWith wsel_X3_memberWith wini_X3 wcode_X3_memberWith) rfl rfl rfl (by decide +kernel) ⟨by decide, by decide⟩) (nf_preV hC hM rfl rfl) rfl rfl hl.1 rfl (lv_room (Nat.le_of_ble_eq_true rfl)) dX3_predecessor_2 ⟨Nat.le_refl _, Nat.le_refl _⟩) hM (fun H locs hM => ?_)
  cases hq1 : xs_memb I nn id with
  | none =>
    simp only [hq1, Option.map_none, va_rf]
    refine lv_astore_nN (pc := 5) (lv' := [(2, .null), (0, .ref (ad 0 0)), (1, .int id)]) hx hb dX3_predecessor_5 rfl hl (by decide) rfl (fun ls hl => ?_)
    refine lv_aload_nN (pc := 6) hx hb dX3_predecessor_6 rfl (lv_at hl 0 rfl) ?_
    refine lv_ifnonnullN (pc := 7) hx hb dX3_predecessor_7 ?_
    refine lv_iconst (pc := 10) (v := -1) hx hb dX3_predecessor_10 (by decide) ?_
    refine lv_goto (pc := 11) (tgt := 18) hx hb dX3_predecessor_11 (by decide) ?_
    exact hret _ _ _ _ _ _ _ _ (by simp [nb_I, xs_rd, hq1]) rfl rfl rfl hM dX3_predecessor_18
  | some i2 =>
    simp only [hq1, Option.map_some, va_rf]
    have hq1l := xs_memb_lt hq1
    refine lv_astore_n (pc := 5) (lv' := [(2, .ref (ad 5 i2)), (0, .ref (ad 0 0)), (1, .int id)]) hx hb dX3_predecessor_5 rfl hl (by decide) rfl (fun ls hl => ?_)
    refine lv_aload_n (pc := 6) hx hb dX3_predecessor_6 rfl (lv_at hl 0 rfl) ?_
    refine lv_ifnonnull (pc := 7) (tgt := 14) hx hb dX3_predecessor_7 (by decide) ?_
    refine lv_aload_n (pc := 14) hx hb dX3_predecessor_14 rfl (lv_at hl 0 rfl) ?_
    refine nf_geti (pc := 15) hC hinX1 hM (xS_5 (by first | assumption | omega)) rfl 2 (by decide) (List.mem_cons_of_mem _ wF_X3_101) rfl dX3_predecessor_15 ?_
    exact hret _ _ _ _ _ _ _ _ (by simp [nb_I, xs_rd, hq1]) rfl rfl rfl hM dX3_predecessor_18
set_option maxHeartbeats 4000000 in
set_option maxRecDepth 100000 in
theorem ct_X3_finger {id j : Int32} (hn : I 0 0 1 = nI nn) (hnn : nn ≤ 12) : nf_Ti l yX3_finger wsX3_finger 2 44 D vwCl (xT cs) Bs (xS cs nn) ad [.ref (ad 0 0), .int id, .int j] I J (xP nn mp) (xs_fgr I nn id j) I J (xP nn mp) := by
  refine nf_enteri (cc := cX3_finger) (maxL := 4) (by decide) rfl (Nat.le_of_ble_eq_true rfl) ?_
  intro p e s m below meth c ls Q hC hM hl hret
  have hx := hC.1.1
  have hb := hC.1.2.1
  have hl : lv_has ls 4 [(0, .ref (ad 0 0)), (1, .int id), (2, .int j)] := hl
  have hinX1 : ∀ w ∈ u_ws RX1 TX1 7, w ∈ wsX3_finger := fun w h => List.mem_cons_of_mem _ (inX1 w h)
  refine lv_aload_n (pc := 0) hx hb dX3_finger_0 rfl (lv_at hl 0 rfl) ?_
  refine lv_iload_n (pc := 1) hx hb dX3_finger_1 rfl (lv_at hl 1 rfl) ?_
  refine nf_callq (pc := 2) (va_runV (As := [.int id]) (rest := []) hC.1 (ct_X3_memberWith (id := id) hn hnn) (cwV 1 hC.1.2.2.2.2 (gd_V wM_X3_47 wi_X3_memberWith wsel_X3_memberWith wini_X3 wcode_X3_memberWith) rfl rfl rfl (by decide +kernel) ⟨by decide, by decide⟩) (nf_preV hC hM rfl rfl) rfl rfl hl.1 rfl (lv_room (Nat.le_of_ble_eq_true rfl)) dX3_finger_2 ⟨Nat.le_refl _, Nat.le_refl _⟩) hM (fun H locs hM => ?_)
  cases hq1 : xs_memb I nn id with
  | none =>
    simp only [hq1, Option.map_none, va_rf]
    refine lv_astore_nN (pc := 5) (lv' := [(3, .null), (0, .ref (ad 0 0)), (1, .int id), (2, .int j)]) hx hb dX3_finger_5 rfl hl (by decide) rfl (fun ls hl => ?_)
    refine lv_aload_nN (pc := 6) hx hb dX3_finger_6 rfl (lv_at hl 0 rfl) ?_
    refine lv_ifnullN (pc := 7) (tgt := 17) hx hb dX3_finger_7 (by decide) ?_
    refine lv_iconst (pc := 17) (v := -1) hx hb dX3_finger_17 (by decide) ?_
    refine lv_goto (pc := 18) (tgt := 27) hx hb dX3_finger_18 (by decide) ?_
    exact hret _ _ _ _ _ _ _ _ (by simp [xs_fgr, hq1]) rfl rfl rfl hM dX3_finger_27
  | some i2 =>
    simp only [hq1, Option.map_some, va_rf]
    have hq1l := xs_memb_lt hq1
    refine lv_astore_n (pc := 5) (lv' := [(3, .ref (ad 5 i2)), (0, .ref (ad 0 0)), (1, .int id), (2, .int j)]) hx hb dX3_finger_5 rfl hl (by decide) rfl (fun ls hl => ?_)
    refine lv_aload_n (pc := 6) hx hb dX3_finger_6 rfl (lv_at hl 0 rfl) ?_
    refine lv_ifnull (pc := 7) hx hb dX3_finger_7 ?_
    refine lv_iload_n (pc := 10) hx hb dX3_finger_10 rfl (lv_at hl 3 rfl) ?_
    refine nf_calli (pc := 11) (va_runS (As := [.int j]) (rest := []) hC.1 (ct_X3_isFinger) (cwS 1 hC.1.2.2.2.2 (gd_S wM_X3_67 wst_X3_isFinger wini_X3 wcode_X3_isFinger) rfl rfl rfl (by decide +kernel) ⟨by decide, by decide⟩) (nf_preS hC hM) rfl rfl hl.1 rfl (lv_room (Nat.le_of_ble_eq_true rfl)) dX3_finger_11 ⟨Nat.le_refl _, Nat.le_refl _⟩) hM (fun H locs hM => ?_)
    refine lv_if_ne (pc := 14) (tgt := 21) hx hb dX3_finger_14 (by decide) (fun h3 => ?_) (fun h3 => ?_)
    · have h3 := nb_1 h3
      obtain ⟨fn, hfn, hfe⟩ := xs_isFinger_ix h3
      refine lv_aload_n (pc := 21) hx hb dX3_finger_21 rfl (lv_at hl 0 rfl) ?_
      refine nf_getr (pc := 22) hC hinX1 hM (xS_5 (by first | assumption | omega)) rfl 3 (by decide) (List.mem_cons_of_mem _ wF_X3_104) rfl dX3_finger_22 ?_
      refine lv_iload_n (pc := 25) hx hb dX3_finger_25 rfl (lv_at hl 3 rfl) ?_
      refine nf_iald (pc := 26) hC hM 0 (xS_6 (by first | assumption | omega)) rfl fn hfe (by omega) (by decide) dX3_finger_26 ?_
      exact hret _ _ _ _ _ _ _ _ (by unfold xs_fgr; rw [hq1]; simp only; rw [if_neg (by rw [h3]; decide), hfe, nI_clamp (by omega)]) rfl rfl rfl hM dX3_finger_27
    · have h3 := nb_0 h3
      refine lv_iconst (pc := 17) (v := -1) hx hb dX3_finger_17 (by decide) ?_
      refine lv_goto (pc := 18) (tgt := 27) hx hb dX3_finger_18 (by decide) ?_
      exact hret _ _ _ _ _ _ _ _ (by simp [xs_fgr, hq1, h3]) rfl rfl rfl hM dX3_finger_27
set_option maxHeartbeats 4000000 in
set_option maxRecDepth 100000 in
theorem ct_X3_entry {id key : Int32} (hn : I 0 0 1 = nI nn) (hnn : nn ≤ 12) (hk : I 0 0 3 = nI kc) (hkk : kc ≤ 10) : nf_Tl l yX3_entry wsX3_entry 2 45 D vwCl (xT cs) Bs (xS cs nn) ad [.ref (ad 0 0), .int id, .int key] I J (xP nn mp) (xs_ety I J nn kc id key) I J (xP nn mp) := by
  refine nf_enterl (cc := cX3_entry) (maxL := 4) (by decide) rfl (Nat.le_of_ble_eq_true rfl) ?_
  intro p e s m below meth c ls Q hC hM hl hret
  have hx := hC.1.1
  have hb := hC.1.2.1
  have hl : lv_has ls 4 [(0, .ref (ad 0 0)), (1, .int id), (2, .int key)] := hl
  refine lv_aload_n (pc := 0) hx hb dX3_entry_0 rfl (lv_at hl 0 rfl) ?_
  refine lv_iload_n (pc := 1) hx hb dX3_entry_1 rfl (lv_at hl 1 rfl) ?_
  refine nf_callq (pc := 2) (va_runV (As := [.int id]) (rest := []) hC.1 (ct_X3_memberWith (id := id) hn hnn) (cwV 1 hC.1.2.2.2.2 (gd_V wM_X3_47 wi_X3_memberWith wsel_X3_memberWith wini_X3 wcode_X3_memberWith) rfl rfl rfl (by decide +kernel) ⟨by decide, by decide⟩) (nf_preV hC hM rfl rfl) rfl rfl hl.1 rfl (lv_room (Nat.le_of_ble_eq_true rfl)) dX3_entry_2 ⟨Nat.le_refl _, Nat.le_refl _⟩) hM (fun H locs hM => ?_)
  cases hq1 : xs_memb I nn id with
  | none =>
    simp only [hq1, Option.map_none, va_rf]
    refine lv_astore_nN (pc := 5) (lv' := [(3, .null), (0, .ref (ad 0 0)), (1, .int id), (2, .int key)]) hx hb dX3_entry_5 rfl hl (by decide) rfl (fun ls hl => ?_)
    refine lv_aload_nN (pc := 6) hx hb dX3_entry_6 rfl (lv_at hl 0 rfl) ?_
    refine lv_ifnonnullN (pc := 7) hx hb dX3_entry_7 ?_
    refine lv_ldc2 (pc := 10) (v := 4294967296) hx hb hC.1.2.2.2.1 (hC.1.2.2.2.2 _ (List.mem_cons_of_mem _ wC_X3_107)) dX3_entry_10 ?_
    refine lv_goto (pc := 13) (tgt := 22) hx hb dX3_entry_13 (by decide) ?_
    exact hret _ _ _ _ _ _ _ _ (by simp [nb_I, xs_ety, hq1]) rfl rfl rfl hM dX3_entry_22
  | some i2 =>
    simp only [hq1, Option.map_some, va_rf]
    have hq1l := xs_memb_lt hq1
    refine lv_astore_n (pc := 5) (lv' := [(3, .ref (ad 5 i2)), (0, .ref (ad 0 0)), (1, .int id), (2, .int key)]) hx hb dX3_entry_5 rfl hl (by decide) rfl (fun ls hl => ?_)
    refine lv_aload_n (pc := 6) hx hb dX3_entry_6 rfl (lv_at hl 0 rfl) ?_
    refine lv_ifnonnull (pc := 7) (tgt := 16) hx hb dX3_entry_7 (by decide) ?_
    refine lv_aload_n (pc := 16) hx hb dX3_entry_16 rfl (lv_at hl 1 rfl) ?_
    refine lv_aload_n (pc := 17) hx hb dX3_entry_17 rfl (lv_at hl 0 rfl) ?_
    refine lv_iload_n (pc := 18) hx hb dX3_entry_18 rfl (lv_at hl 3 rfl) ?_
    refine nf_calll (pc := 19) (va_runV (As := [.ref (ad 5 i2), .int key]) (rest := []) hC.1 (ct_X3_valueAt (i := i2) (key := key) hk hkk (by first | assumption | omega)) (cwV 2 hC.1.2.2.2.2 (gd_V wM_X3_109 wi_X3_valueAt wsel_X3_valueAt wini_X3 wcode_X3_valueAt) rfl rfl rfl (by decide +kernel) ⟨by decide, by decide⟩) (nf_preV hC hM rfl rfl) rfl rfl hl.1 rfl (lv_room (Nat.le_of_ble_eq_true rfl)) dX3_entry_19 ⟨Nat.le_refl _, Nat.le_refl _⟩) hM (fun H locs hM => ?_)
    exact hret _ _ _ _ _ _ _ _ (by simp [nb_I, xs_ety, hq1]) rfl rfl rfl hM dX3_entry_22
set_option maxHeartbeats 4000000 in
set_option maxRecDepth 100000 in
theorem ct_X3_answer {id : Int32} (hn : I 0 0 1 = nI nn) (hnn : nn ≤ 12) : nf_Tl l yX3_answer wsX3_answer 1 22 D vwCl (xT cs) Bs (xS cs nn) ad [.ref (ad 0 0), .int id] I J (xP nn mp) (xs_ans I J nn id) I J (xP nn mp) := by
  refine nf_enterl (cc := cX3_answer) (maxL := 3) (by decide) rfl (Nat.le_of_ble_eq_true rfl) ?_
  intro p e s m below meth c ls Q hC hM hl hret
  have hx := hC.1.1
  have hb := hC.1.2.1
  have hl : lv_has ls 3 [(0, .ref (ad 0 0)), (1, .int id)] := hl
  have hinX1 : ∀ w ∈ u_ws RX1 TX1 7, w ∈ wsX3_answer := fun w h => List.mem_cons_of_mem _ (inX1 w h)
  refine lv_aload_n (pc := 0) hx hb dX3_answer_0 rfl (lv_at hl 0 rfl) ?_
  refine lv_iload_n (pc := 1) hx hb dX3_answer_1 rfl (lv_at hl 1 rfl) ?_
  refine nf_callq (pc := 2) (va_runV (As := [.int id]) (rest := []) hC.1 (ct_X3_nodeWith (id := id) hn hnn) (cwV 1 hC.1.2.2.2.2 (gd_V wM_X3_44 wi_X3_nodeWith wsel_X3_nodeWith wini_X3 wcode_X3_nodeWith) rfl rfl rfl (by decide +kernel) ⟨by decide, by decide⟩) (nf_preV hC hM rfl rfl) rfl rfl hl.1 rfl (lv_room (Nat.le_of_ble_eq_true rfl)) dX3_answer_2 ⟨Nat.le_refl _, Nat.le_refl _⟩) hM (fun H locs hM => ?_)
  cases hq1 : xs_node I nn id with
  | none =>
    simp only [hq1, Option.map_none, va_rf]
    refine lv_astore_nN (pc := 5) (lv' := [(2, .null), (0, .ref (ad 0 0)), (1, .int id)]) hx hb dX3_answer_5 rfl hl (by decide) rfl (fun ls hl => ?_)
    refine lv_aload_nN (pc := 6) hx hb dX3_answer_6 rfl (lv_at hl 0 rfl) ?_
    refine lv_ifnonnullN (pc := 7) hx hb dX3_answer_7 ?_
    refine lv_ldc2 (pc := 10) (v := 8589934592) hx hb hC.1.2.2.2.1 (hC.1.2.2.2.2 _ (List.mem_cons_of_mem _ wC_X3_117)) dX3_answer_10 ?_
    refine lv_goto (pc := 13) (tgt := 20) hx hb dX3_answer_13 (by decide) ?_
    exact hret _ _ _ _ _ _ _ _ (by simp [nb_I, xs_ans, hq1]) rfl rfl rfl hM dX3_answer_20
  | some i2 =>
    simp only [hq1, Option.map_some, va_rf]
    have hq1l := xs_node_lt hq1
    refine lv_astore_n (pc := 5) (lv' := [(2, .ref (ad 5 i2)), (0, .ref (ad 0 0)), (1, .int id)]) hx hb dX3_answer_5 rfl hl (by decide) rfl (fun ls hl => ?_)
    refine lv_aload_n (pc := 6) hx hb dX3_answer_6 rfl (lv_at hl 0 rfl) ?_
    refine lv_ifnonnull (pc := 7) (tgt := 16) hx hb dX3_answer_7 (by decide) ?_
    refine lv_aload_n (pc := 16) hx hb dX3_answer_16 rfl (lv_at hl 0 rfl) ?_
    refine nf_getl (pc := 17) hC hinX1 hM (xS_5 (by first | assumption | omega)) rfl 5 (by decide) (List.mem_cons_of_mem _ wF_X3_119) rfl dX3_answer_17 ?_
    exact hret _ _ _ _ _ _ _ _ (by simp [nb_I, xs_ans, hq1]) rfl rfl rfl hM dX3_answer_20
set_option maxHeartbeats 4000000 in
set_option maxRecDepth 100000 in
theorem ct_X3_hops {id : Int32} (hn : I 0 0 1 = nI nn) (hnn : nn ≤ 12) : nf_Ti l yX3_hops wsX3_hops 1 22 D vwCl (xT cs) Bs (xS cs nn) ad [.ref (ad 0 0), .int id] I J (xP nn mp) (xs_hps I nn id) I J (xP nn mp) := by
  refine nf_enteri (cc := cX3_hops) (maxL := 3) (by decide) rfl (Nat.le_of_ble_eq_true rfl) ?_
  intro p e s m below meth c ls Q hC hM hl hret
  have hx := hC.1.1
  have hb := hC.1.2.1
  have hl : lv_has ls 3 [(0, .ref (ad 0 0)), (1, .int id)] := hl
  have hinX1 : ∀ w ∈ u_ws RX1 TX1 7, w ∈ wsX3_hops := fun w h => List.mem_cons_of_mem _ (inX1 w h)
  refine lv_aload_n (pc := 0) hx hb dX3_hops_0 rfl (lv_at hl 0 rfl) ?_
  refine lv_iload_n (pc := 1) hx hb dX3_hops_1 rfl (lv_at hl 1 rfl) ?_
  refine nf_callq (pc := 2) (va_runV (As := [.int id]) (rest := []) hC.1 (ct_X3_nodeWith (id := id) hn hnn) (cwV 1 hC.1.2.2.2.2 (gd_V wM_X3_44 wi_X3_nodeWith wsel_X3_nodeWith wini_X3 wcode_X3_nodeWith) rfl rfl rfl (by decide +kernel) ⟨by decide, by decide⟩) (nf_preV hC hM rfl rfl) rfl rfl hl.1 rfl (lv_room (Nat.le_of_ble_eq_true rfl)) dX3_hops_2 ⟨Nat.le_refl _, Nat.le_refl _⟩) hM (fun H locs hM => ?_)
  cases hq1 : xs_node I nn id with
  | none =>
    simp only [hq1, Option.map_none, va_rf]
    refine lv_astore_nN (pc := 5) (lv' := [(2, .null), (0, .ref (ad 0 0)), (1, .int id)]) hx hb dX3_hops_5 rfl hl (by decide) rfl (fun ls hl => ?_)
    refine lv_aload_nN (pc := 6) hx hb dX3_hops_6 rfl (lv_at hl 0 rfl) ?_
    refine lv_ifnonnullN (pc := 7) hx hb dX3_hops_7 ?_
    refine lv_iconst (pc := 10) (v := -1) hx hb dX3_hops_10 (by decide) ?_
    refine lv_goto (pc := 11) (tgt := 18) hx hb dX3_hops_11 (by decide) ?_
    exact hret _ _ _ _ _ _ _ _ (by simp [nb_I, xs_hps, hq1]) rfl rfl rfl hM dX3_hops_18
  | some i2 =>
    simp only [hq1, Option.map_some, va_rf]
    have hq1l := xs_node_lt hq1
    refine lv_astore_n (pc := 5) (lv' := [(2, .ref (ad 5 i2)), (0, .ref (ad 0 0)), (1, .int id)]) hx hb dX3_hops_5 rfl hl (by decide) rfl (fun ls hl => ?_)
    refine lv_aload_n (pc := 6) hx hb dX3_hops_6 rfl (lv_at hl 0 rfl) ?_
    refine lv_ifnonnull (pc := 7) (tgt := 14) hx hb dX3_hops_7 (by decide) ?_
    refine lv_aload_n (pc := 14) hx hb dX3_hops_14 rfl (lv_at hl 0 rfl) ?_
    refine nf_geti (pc := 15) hC hinX1 hM (xS_5 (by first | assumption | omega)) rfl 6 (by decide) (List.mem_cons_of_mem _ wF_X3_122) rfl dX3_hops_15 ?_
    exact hret _ _ _ _ _ _ _ _ (by simp [nb_I, xs_hps, hq1]) rfl rfl rfl hM dX3_hops_18
set_option maxHeartbeats 4000000 in
set_option maxRecDepth 100000 in
theorem ct_X3_owner {key : Int32} (hn : I 0 0 1 = nI nn) (hnn : nn ≤ 12) : nf_Ti l yX3_owner wsX3_owner 2 45 D vwCl (xT cs) Bs (xS cs nn) ad [.ref (ad 0 0), .int key] I J (xP nn mp) (xs_own I nn key) I J (xP nn mp) := by
  refine nf_enteri (cc := cX3_owner) (maxL := 2) (by decide) rfl (Nat.le_of_ble_eq_true rfl) ?_
  intro p e s m below meth c ls Q hC hM hl hret
  have hx := hC.1.1
  have hb := hC.1.2.1
  have hl : lv_has ls 2 [(0, .ref (ad 0 0)), (1, .int key)] := hl
  refine lv_iload_n (pc := 0) hx hb dX3_owner_0 rfl (lv_at hl 1 rfl) ?_
  refine nf_calli (pc := 1) (va_runS (As := [.int key]) (rest := []) hC.1 (ct_X3_isId) (cwS 1 hC.1.2.2.2.2 (gd_S wM_X3_33 wst_X3_isId wini_X3 wcode_X3_isId) rfl rfl rfl (by decide +kernel) ⟨by decide, by decide⟩) (nf_preS hC hM) rfl rfl hl.1 rfl (lv_room (Nat.le_of_ble_eq_true rfl)) dX3_owner_1 ⟨Nat.le_refl _, Nat.le_refl _⟩) hM (fun H locs hM => ?_)
  refine lv_if_eq (pc := 4) (tgt := 15) hx hb dX3_owner_4 (by decide) (fun h1 => ?_) (fun h1 => ?_)
  · have h1 := nb_0 h1
    refine lv_iconst (pc := 15) (v := -1) hx hb dX3_owner_15 (by decide) ?_
    exact hret _ _ _ _ _ _ _ _ (by simp [nb_I, xs_own, h1]) rfl rfl rfl hM dX3_owner_16
  · have h1 := nb_1 h1
    refine lv_aload_n (pc := 7) hx hb dX3_owner_7 rfl (lv_at hl 0 rfl) ?_
    refine lv_iload_n (pc := 8) hx hb dX3_owner_8 rfl (lv_at hl 1 rfl) ?_
    refine nf_calli (pc := 9) (va_runV (As := [.int key]) (rest := []) hC.1 (ct_X3_firstUpFrom (st := key) hn hnn) (cwV 1 hC.1.2.2.2.2 (gd_V wM_X3_125 wi_X3_firstUpFrom wsel_X3_firstUpFrom wini_X3 wcode_X3_firstUpFrom) rfl rfl rfl (by decide +kernel) ⟨by decide, by decide⟩) (nf_preV hC hM rfl rfl) rfl rfl hl.1 rfl (lv_room (Nat.le_of_ble_eq_true rfl)) dX3_owner_9 ⟨Nat.le_refl _, Nat.le_refl _⟩) hM (fun H locs hM => ?_)
    refine lv_goto (pc := 12) (tgt := 16) hx hb dX3_owner_12 (by decide) ?_
    exact hret _ _ _ _ _ _ _ _ (by simp [nb_I, xs_own, h1]) rfl rfl rfl hM dX3_owner_16
end XE
end
section
/-! stabilise, fix, put, get. -/
section XG
variable {l : Launch} {D : va_G} {cs : Nat → ClassId} {Bs nn sz kc : Nat} {ad : nf_A} {I : nf_I} {J : nf_J} {mp : Nat → Nat}
set_option maxHeartbeats 4000000 in
set_option maxRecDepth 100000 in
theorem ct_X3_stabilise {id : Int32} (hn : I 0 0 1 = nI nn) (hnn : nn ≤ 12) (hs : I 3 0 1 = nI sz) (hsz0 : sz ≤ 20) (hmp : ∀ j, j < 21 → mp j < 21) : nf_Ti l yX3_stabilise wsX3_stabilise 2 44 D vwCl (xT cs) Bs (xS cs nn) ad [.ref (ad 0 0), .int id] I J (xP nn mp) (nb_I (xs_stbB I nn id)) (xs_stbI I nn (mp sz) id) (xs_stbJ I J nn (mp sz) id) (xP nn mp) := by
  refine nf_enterz (cc := cX3_stabilise) (maxL := 4) (by decide) rfl (Nat.le_of_ble_eq_true rfl) ?_
  intro p e s m below meth c ls Q hC hM hl hret
  have hx := hC.1.1
  have hb := hC.1.2.1
  have hl : lv_has ls 4 [(0, .ref (ad 0 0)), (1, .int id)] := hl
  have hinX0 : ∀ w ∈ u_ws RX0 TX0 9, w ∈ wsX3_stabilise := fun w h => List.mem_cons_of_mem _ (inX0 w h)
  have hinX1 : ∀ w ∈ u_ws RX1 TX1 7, w ∈ wsX3_stabilise := fun w h => List.mem_cons_of_mem _ (inX1 w h)
  have hinX3 : ∀ w ∈ u_ws RX3 TX3 5, w ∈ wsX3_stabilise := fun w h => List.mem_cons_of_mem _ (inX3 w h)
  refine lv_aload_n (pc := 0) hx hb dX3_stabilise_0 rfl (lv_at hl 0 rfl) ?_
  refine lv_iload_n (pc := 1) hx hb dX3_stabilise_1 rfl (lv_at hl 1 rfl) ?_
  refine nf_callq (pc := 2) (va_runV (As := [.int id]) (rest := []) hC.1 (ct_X3_memberWith (id := id) hn hnn) (cwV 1 hC.1.2.2.2.2 (gd_V wM_X3_47 wi_X3_memberWith wsel_X3_memberWith wini_X3 wcode_X3_memberWith) rfl rfl rfl (by decide +kernel) ⟨by decide, by decide⟩) (nf_preV hC hM rfl rfl) rfl rfl hl.1 rfl (lv_room (Nat.le_of_ble_eq_true rfl)) dX3_stabilise_2 ⟨Nat.le_refl _, Nat.le_refl _⟩) hM (fun H locs hM => ?_)
  cases hq1 : xs_memb I nn id with
  | none =>
    simp only [hq1, Option.map_none, va_rf]
    refine lv_astore_nN (pc := 5) (lv' := [(2, .null), (0, .ref (ad 0 0)), (1, .int id)]) hx hb dX3_stabilise_5 rfl hl (by decide) rfl (fun ls hl => ?_)
    refine lv_aload_nN (pc := 6) hx hb dX3_stabilise_6 rfl (lv_at hl 0 rfl) ?_
    refine lv_ifnullN (pc := 7) (tgt := 20) hx hb dX3_stabilise_7 (by decide) ?_
    refine lv_iconst (pc := 20) (v := 0) hx hb dX3_stabilise_20 (by decide) ?_
    exact hret _ _ _ _ _ _ _ _ (by simp [nb_I, xs_stbB, hq1]) (by simp [xs_stbI, xs_stbB, hq1] <;> rfl) (by simp [xs_stbJ, xs_stbB, hq1] <;> rfl) rfl hM dX3_stabilise_21
  | some i2 =>
    simp only [hq1, Option.map_some, va_rf]
    have hq1l := xs_memb_lt hq1
    refine lv_astore_n (pc := 5) (lv' := [(2, .ref (ad 5 i2)), (0, .ref (ad 0 0)), (1, .int id)]) hx hb dX3_stabilise_5 rfl hl (by decide) rfl (fun ls hl => ?_)
    refine lv_aload_n (pc := 6) hx hb dX3_stabilise_6 rfl (lv_at hl 0 rfl) ?_
    refine lv_ifnull (pc := 7) hx hb dX3_stabilise_7 ?_
    refine lv_aload_n (pc := 10) hx hb dX3_stabilise_10 rfl (lv_at hl 1 rfl) ?_
    refine nf_getr (pc := 11) hC hinX3 hM rfl rfl 4 (by decide) (List.mem_cons_of_mem _ wF_X3_29) rfl dX3_stabilise_11 ?_
    refine nf_calli (pc := 14) (va_runV (As := []) (rest := []) hC.1 (ct_X2_isFull) (cwV 0 hC.1.2.2.2.2 (gd_V wM_X3_50 wi_X2_isFull wsel_X2_isFull wini_X2 wcode_X2_isFull) rfl rfl rfl (by decide +kernel) ⟨by decide, by decide⟩) (nf_preV hC hM rfl rfl) rfl rfl hl.1 rfl (lv_room (Nat.le_of_ble_eq_true rfl)) dX3_stabilise_14 ⟨Nat.le_refl _, Nat.le_refl _⟩) hM (fun H locs hM => ?_)
    refine lv_if_eq (pc := 17) (tgt := 22) hx hb dX3_stabilise_17 (by decide) (fun h3 => ?_) (fun h3 => ?_)
    · have h3 := nb_0 h3
      have hsz : sz < 20 := xs_full_n hs (by omega) h3
      have hon := hmp sz (by omega)
      refine lv_aload_n (pc := 22) hx hb dX3_stabilise_22 rfl (lv_at hl 1 rfl) ?_
      refine nf_getr (pc := 23) hC hinX3 hM rfl rfl 4 (by decide) (List.mem_cons_of_mem _ wF_X3_29) rfl dX3_stabilise_23 ?_
      refine lv_bipush (pc := 26) (v := 6) hx hb dX3_stabilise_26 (by decide) ?_
      refine lv_aload_n (pc := 28) hx hb dX3_stabilise_28 rfl (lv_at hl 0 rfl) ?_
      refine nf_geti (pc := 29) hC hinX1 hM (xS_5 (by first | assumption | omega)) rfl 1 (by decide) (List.mem_cons_of_mem _ wF_X3_41) rfl dX3_stabilise_29 ?_
      refine nf_callq (pc := 32) (va_runV (As := [.int 6, .int (I 5 i2 1)]) (rest := []) hC.1 (ct_X2_send (kd := 6) (tz := (I 5 i2 1)) (sz := sz) hs hsz hmp) (cwV 2 hC.1.2.2.2.2 (gd_V wM_X3_58 wi_X2_send wsel_X2_send wini_X2 wcode_X2_send) rfl rfl rfl (by decide +kernel) ⟨by decide, by decide⟩) (nf_preV hC hM rfl rfl) rfl rfl hl.1 rfl (lv_room (Nat.le_of_ble_eq_true rfl)) dX3_stabilise_32 ⟨Nat.le_refl _, Nat.le_refl _⟩) hM (fun H locs hM => ?_)
      refine W.eq (g2 := F0 m 35 ls [.ref (ad 8 (mp sz))]) rfl ?_
      refine lv_astore_n (pc := 35) (lv' := [(3, .ref (ad 8 (mp sz))), (2, .ref (ad 5 i2)), (0, .ref (ad 0 0)), (1, .int id)]) hx hb dX3_stabilise_35 rfl hl (by decide) rfl (fun ls hl => ?_)
      refine lv_aload_n (pc := 36) hx hb dX3_stabilise_36 rfl (lv_at hl 0 rfl) ?_
      refine lv_iload_n (pc := 37) hx hb dX3_stabilise_37 rfl (lv_at hl 3 rfl) ?_
      refine nf_puti (pc := 38) hC hinX0 tyX0 tyX0_ok nmX0 hM (xS_8 (by first | assumption | omega)) rfl 6 (by decide) (List.mem_cons_of_mem _ wF_X3_62) rfl (by decide +kernel) rfl dX3_stabilise_38 (fun H locs hM => ?_)
      refine lv_iconst (pc := 41) (v := 1) hx hb dX3_stabilise_41 (by decide) ?_
      exact hret _ _ _ _ _ _ _ _ (by simp [nb_I, xs_stbB, hq1, h3]) (by simp [xs_stbI, xs_stbB, hq1, h3] <;> rfl) (by simp [xs_stbJ, xs_stbB, hq1, h3] <;> rfl) rfl hM dX3_stabilise_42
    · have h3 := nb_1 h3
      refine lv_iconst (pc := 20) (v := 0) hx hb dX3_stabilise_20 (by decide) ?_
      exact hret _ _ _ _ _ _ _ _ (by simp [nb_I, xs_stbB, hq1, h3]) (by simp [xs_stbI, xs_stbB, hq1, h3] <;> rfl) (by simp [xs_stbJ, xs_stbB, hq1, h3] <;> rfl) rfl hM dX3_stabilise_21
set_option maxHeartbeats 4000000 in
set_option maxRecDepth 100000 in
theorem ct_X3_fix {id j : Int32} (hn : I 0 0 1 = nI nn) (hnn : nn ≤ 12) (hs : I 3 0 1 = nI sz) (hsz0 : sz ≤ 20) (hmp : ∀ j, j < 21 → mp j < 21) : nf_Ti l yX3_fix wsX3_fix 2 48 D vwCl (xT cs) Bs (xS cs nn) ad [.ref (ad 0 0), .int id, .int j] I J (xP nn mp) (nb_I (xs_fixB I nn id j)) (xs_fixI I nn (mp sz) id j) (xs_fixJ I J nn (mp sz) id j) (xP nn mp) := by
  refine nf_enterz (cc := cX3_fix) (maxL := 4) (by decide) rfl (Nat.le_of_ble_eq_true rfl) ?_
  intro p e s m below meth c ls Q hC hM hl hret
  have hx := hC.1.1
  have hb := hC.1.2.1
  have hl : lv_has ls 4 [(0, .ref (ad 0 0)), (1, .int id), (2, .int j)] := hl
  have hinX0 : ∀ w ∈ u_ws RX0 TX0 9, w ∈ wsX3_fix := fun w h => List.mem_cons_of_mem _ (inX0 w h)
  have hinX3 : ∀ w ∈ u_ws RX3 TX3 5, w ∈ wsX3_fix := fun w h => List.mem_cons_of_mem _ (inX3 w h)
  refine lv_aload_n (pc := 0) hx hb dX3_fix_0 rfl (lv_at hl 0 rfl) ?_
  refine lv_iload_n (pc := 1) hx hb dX3_fix_1 rfl (lv_at hl 1 rfl) ?_
  refine nf_callq (pc := 2) (va_runV (As := [.int id]) (rest := []) hC.1 (ct_X3_memberWith (id := id) hn hnn) (cwV 1 hC.1.2.2.2.2 (gd_V wM_X3_47 wi_X3_memberWith wsel_X3_memberWith wini_X3 wcode_X3_memberWith) rfl rfl rfl (by decide +kernel) ⟨by decide, by decide⟩) (nf_preV hC hM rfl rfl) rfl rfl hl.1 rfl (lv_room (Nat.le_of_ble_eq_true rfl)) dX3_fix_2 ⟨Nat.le_refl _, Nat.le_refl _⟩) hM (fun H locs hM => ?_)
  cases hq1 : xs_memb I nn id with
  | none =>
    simp only [hq1, Option.map_none, va_rf]
    refine lv_ifnullN (pc := 5) (tgt := 25) hx hb dX3_fix_5 (by decide) ?_
    refine lv_iconst (pc := 25) (v := 0) hx hb dX3_fix_25 (by decide) ?_
    exact hret _ _ _ _ _ _ _ _ (by simp [nb_I, xs_fixB, hq1]) (by simp [xs_fixI, xs_fixB, hq1] <;> rfl) (by simp [xs_fixJ, xs_fixB, hq1] <;> rfl) rfl hM dX3_fix_26
  | some i2 =>
    simp only [hq1, Option.map_some, va_rf]
    have hq1l := xs_memb_lt hq1
    refine lv_ifnull (pc := 5) hx hb dX3_fix_5 ?_
    refine lv_iload_n (pc := 8) hx hb dX3_fix_8 rfl (lv_at hl 2 rfl) ?_
    refine nf_calli (pc := 9) (va_runS (As := [.int j]) (rest := []) hC.1 (ct_X3_isFinger) (cwS 1 hC.1.2.2.2.2 (gd_S wM_X3_67 wst_X3_isFinger wini_X3 wcode_X3_isFinger) rfl rfl rfl (by decide +kernel) ⟨by decide, by decide⟩) (nf_preS hC hM) rfl rfl hl.1 rfl (lv_room (Nat.le_of_ble_eq_true rfl)) dX3_fix_9 ⟨Nat.le_refl _, Nat.le_refl _⟩) hM (fun H locs hM => ?_)
    refine lv_if_eq (pc := 12) (tgt := 25) hx hb dX3_fix_12 (by decide) (fun h3 => ?_) (fun h3 => ?_)
    · have h3 := nb_0 h3
      refine lv_iconst (pc := 25) (v := 0) hx hb dX3_fix_25 (by decide) ?_
      exact hret _ _ _ _ _ _ _ _ (by simp [nb_I, xs_fixB, hq1, h3]) (by simp [xs_fixI, xs_fixB, hq1, h3] <;> rfl) (by simp [xs_fixJ, xs_fixB, hq1, h3] <;> rfl) rfl hM dX3_fix_26
    · have h3 := nb_1 h3
      refine lv_aload_n (pc := 15) hx hb dX3_fix_15 rfl (lv_at hl 0 rfl) ?_
      refine nf_getr (pc := 16) hC hinX3 hM rfl rfl 4 (by decide) (List.mem_cons_of_mem _ wF_X3_29) rfl dX3_fix_16 ?_
      refine nf_calli (pc := 19) (va_runV (As := []) (rest := []) hC.1 (ct_X2_isFull) (cwV 0 hC.1.2.2.2.2 (gd_V wM_X3_50 wi_X2_isFull wsel_X2_isFull wini_X2 wcode_X2_isFull) rfl rfl rfl (by decide +kernel) ⟨by decide, by decide⟩) (nf_preV hC hM rfl rfl) rfl rfl hl.1 rfl (lv_room (Nat.le_of_ble_eq_true rfl)) dX3_fix_19 ⟨Nat.le_refl _, Nat.le_refl _⟩) hM (fun H locs hM => ?_)
      refine lv_if_eq (pc := 22) (tgt := 27) hx hb dX3_fix_22 (by decide) (fun h4 => ?_) (fun h4 => ?_)
      · have h4 := nb_0 h4
        have hsz : sz < 20 := xs_full_n hs (by omega) h4
        have hon := hmp sz (by omega)
        refine lv_aload_n (pc := 27) hx hb dX3_fix_27 rfl (lv_at hl 0 rfl) ?_
        refine lv_iload_n (pc := 28) hx hb dX3_fix_28 rfl (lv_at hl 1 rfl) ?_
        refine lv_iload_n (pc := 29) hx hb dX3_fix_29 rfl (lv_at hl 1 rfl) ?_
        refine lv_iconst (pc := 30) (v := 2) hx hb dX3_fix_30 (by decide) ?_
        refine lv_iload_n (pc := 31) hx hb dX3_fix_31 rfl (lv_at hl 1 rfl) ?_
        refine lv_iload_n (pc := 32) hx hb dX3_fix_32 rfl (lv_at hl 2 rfl) ?_
        refine nf_calli (pc := 33) (va_runS (As := [.int id, .int j]) (rest := [.int 2, .int id, .int id, .ref (ad 0 0)]) hC.1 (ct_X3_fingerStart) (cwS 2 hC.1.2.2.2.2 (gd_S wM_X3_70 wst_X3_fingerStart wini_X3 wcode_X3_fingerStart) rfl rfl rfl (by decide +kernel) ⟨by decide, by decide⟩) (nf_preS hC hM) rfl rfl hl.1 rfl (lv_room (Nat.le_of_ble_eq_true rfl)) dX3_fix_33 ⟨Nat.le_refl _, Nat.le_refl _⟩) hM (fun H locs hM => ?_)
        refine nf_callq (pc := 36) (va_runV (As := [.int id, .int id, .int 2, .int (xs_fst id j)]) (rest := []) hC.1 (ct_X3_sendFind (tz := id) (ak := id) (pu := 2) (ky := (xs_fst id j)) (sz := sz) hs hsz hmp) (cwV 4 hC.1.2.2.2.2 (gd_V wM_X3_54 wi_X3_sendFind wsel_X3_sendFind wini_X3 wcode_X3_sendFind) rfl rfl rfl (by decide +kernel) ⟨by decide, by decide⟩) (nf_preV hC hM rfl rfl) rfl rfl hl.1 rfl (lv_room (Nat.le_of_ble_eq_true rfl)) dX3_fix_36 ⟨Nat.le_refl _, Nat.le_refl _⟩) hM (fun H locs hM => ?_)
        refine W.eq (g2 := F0 m 39 ls [.ref (ad 8 (mp sz))]) rfl ?_
        refine lv_astore_n (pc := 39) (lv' := [(3, .ref (ad 8 (mp sz))), (0, .ref (ad 0 0)), (1, .int id), (2, .int j)]) hx hb dX3_fix_39 rfl hl (by decide) rfl (fun ls hl => ?_)
        refine lv_aload_n (pc := 40) hx hb dX3_fix_40 rfl (lv_at hl 0 rfl) ?_
        refine lv_iload_n (pc := 41) hx hb dX3_fix_41 rfl (lv_at hl 3 rfl) ?_
        refine nf_puti (pc := 42) hC hinX0 tyX0 tyX0_ok nmX0 hM (xS_8 (by first | assumption | omega)) rfl 5 (by decide) (List.mem_cons_of_mem _ wF_X3_74) rfl (by decide +kernel) rfl dX3_fix_42 (fun H locs hM => ?_)
        refine lv_iconst (pc := 45) (v := 1) hx hb dX3_fix_45 (by decide) ?_
        exact hret _ _ _ _ _ _ _ _ (by simp [nb_I, xs_fixB, hq1, h3, h4]) (by simp [xs_fixI, xs_fixB, hq1, h3, h4] <;> rfl) (by simp [xs_fixJ, xs_fixB, hq1, h3, h4] <;> rfl) rfl hM dX3_fix_46
      · have h4 := nb_1 h4
        refine lv_iconst (pc := 25) (v := 0) hx hb dX3_fix_25 (by decide) ?_
        exact hret _ _ _ _ _ _ _ _ (by simp [nb_I, xs_fixB, hq1, h3, h4]) (by simp [xs_fixI, xs_fixB, hq1, h3, h4] <;> rfl) (by simp [xs_fixJ, xs_fixB, hq1, h3, h4] <;> rfl) rfl hM dX3_fix_26
set_option maxHeartbeats 4000000 in
set_option maxRecDepth 100000 in
theorem ct_X3_get {id key : Int32} (hn : I 0 0 1 = nI nn) (hnn : nn ≤ 12) (hs : I 3 0 1 = nI sz) (hsz0 : sz ≤ 20) (hmp : ∀ j, j < 21 → mp j < 21) : nf_Ti l yX3_get wsX3_get 2 48 D vwCl (xT cs) Bs (xS cs nn) ad [.ref (ad 0 0), .int id, .int key] I J (xP nn mp) (nb_I (xs_getB I nn id key)) (xs_getI I nn (mp sz) id key) (xs_getJ I J nn (mp sz) id key) (xP nn mp) := by
  refine nf_enterz (cc := cX3_get) (maxL := 3) (by decide) rfl (Nat.le_of_ble_eq_true rfl) ?_
  intro p e s m below meth c ls Q hC hM hl hret
  have hx := hC.1.1
  have hb := hC.1.2.1
  have hl : lv_has ls 3 [(0, .ref (ad 0 0)), (1, .int id), (2, .int key)] := hl
  have hinX3 : ∀ w ∈ u_ws RX3 TX3 5, w ∈ wsX3_get := fun w h => List.mem_cons_of_mem _ (inX3 w h)
  refine lv_aload_n (pc := 0) hx hb dX3_get_0 rfl (lv_at hl 0 rfl) ?_
  refine lv_iload_n (pc := 1) hx hb dX3_get_1 rfl (lv_at hl 1 rfl) ?_
  refine nf_callq (pc := 2) (va_runV (As := [.int id]) (rest := []) hC.1 (ct_X3_memberWith (id := id) hn hnn) (cwV 1 hC.1.2.2.2.2 (gd_V wM_X3_47 wi_X3_memberWith wsel_X3_memberWith wini_X3 wcode_X3_memberWith) rfl rfl rfl (by decide +kernel) ⟨by decide, by decide⟩) (nf_preV hC hM rfl rfl) rfl rfl hl.1 rfl (lv_room (Nat.le_of_ble_eq_true rfl)) dX3_get_2 ⟨Nat.le_refl _, Nat.le_refl _⟩) hM (fun H locs hM => ?_)
  cases hq1 : xs_memb I nn id with
  | none =>
    simp only [hq1, Option.map_none, va_rf]
    refine lv_ifnullN (pc := 5) (tgt := 25) hx hb dX3_get_5 (by decide) ?_
    refine lv_iconst (pc := 25) (v := 0) hx hb dX3_get_25 (by decide) ?_
    exact hret _ _ _ _ _ _ _ _ (by simp [nb_I, xs_getB, hq1]) (by simp [xs_getI, xs_getB, hq1] <;> rfl) (by simp [xs_getJ, xs_getB, hq1] <;> rfl) rfl hM dX3_get_26
  | some i2 =>
    simp only [hq1, Option.map_some, va_rf]
    have hq1l := xs_memb_lt hq1
    refine lv_ifnull (pc := 5) hx hb dX3_get_5 ?_
    refine lv_iload_n (pc := 8) hx hb dX3_get_8 rfl (lv_at hl 2 rfl) ?_
    refine nf_calli (pc := 9) (va_runS (As := [.int key]) (rest := []) hC.1 (ct_X3_isId) (cwS 1 hC.1.2.2.2.2 (gd_S wM_X3_33 wst_X3_isId wini_X3 wcode_X3_isId) rfl rfl rfl (by decide +kernel) ⟨by decide, by decide⟩) (nf_preS hC hM) rfl rfl hl.1 rfl (lv_room (Nat.le_of_ble_eq_true rfl)) dX3_get_9 ⟨Nat.le_refl _, Nat.le_refl _⟩) hM (fun H locs hM => ?_)
    refine lv_if_eq (pc := 12) (tgt := 25) hx hb dX3_get_12 (by decide) (fun h3 => ?_) (fun h3 => ?_)
    · have h3 := nb_0 h3
      refine lv_iconst (pc := 25) (v := 0) hx hb dX3_get_25 (by decide) ?_
      exact hret _ _ _ _ _ _ _ _ (by simp [nb_I, xs_getB, hq1, h3]) (by simp [xs_getI, xs_getB, hq1, h3] <;> rfl) (by simp [xs_getJ, xs_getB, hq1, h3] <;> rfl) rfl hM dX3_get_26
    · have h3 := nb_1 h3
      refine lv_aload_n (pc := 15) hx hb dX3_get_15 rfl (lv_at hl 0 rfl) ?_
      refine nf_getr (pc := 16) hC hinX3 hM rfl rfl 4 (by decide) (List.mem_cons_of_mem _ wF_X3_29) rfl dX3_get_16 ?_
      refine nf_calli (pc := 19) (va_runV (As := []) (rest := []) hC.1 (ct_X2_isFull) (cwV 0 hC.1.2.2.2.2 (gd_V wM_X3_50 wi_X2_isFull wsel_X2_isFull wini_X2 wcode_X2_isFull) rfl rfl rfl (by decide +kernel) ⟨by decide, by decide⟩) (nf_preV hC hM rfl rfl) rfl rfl hl.1 rfl (lv_room (Nat.le_of_ble_eq_true rfl)) dX3_get_19 ⟨Nat.le_refl _, Nat.le_refl _⟩) hM (fun H locs hM => ?_)
      refine lv_if_eq (pc := 22) (tgt := 27) hx hb dX3_get_22 (by decide) (fun h4 => ?_) (fun h4 => ?_)
      · have h4 := nb_0 h4
        have hsz : sz < 20 := xs_full_n hs (by omega) h4
        have hon := hmp sz (by omega)
        refine lv_aload_n (pc := 27) hx hb dX3_get_27 rfl (lv_at hl 0 rfl) ?_
        refine lv_iload_n (pc := 28) hx hb dX3_get_28 rfl (lv_at hl 1 rfl) ?_
        refine lv_iload_n (pc := 29) hx hb dX3_get_29 rfl (lv_at hl 1 rfl) ?_
        refine lv_iconst (pc := 30) (v := 4) hx hb dX3_get_30 (by decide) ?_
        refine lv_iload_n (pc := 31) hx hb dX3_get_31 rfl (lv_at hl 2 rfl) ?_
        refine nf_callq (pc := 32) (va_runV (As := [.int id, .int id, .int 4, .int key]) (rest := []) hC.1 (ct_X3_sendFind (tz := id) (ak := id) (pu := 4) (ky := key) (sz := sz) hs hsz hmp) (cwV 4 hC.1.2.2.2.2 (gd_V wM_X3_54 wi_X3_sendFind wsel_X3_sendFind wini_X3 wcode_X3_sendFind) rfl rfl rfl (by decide +kernel) ⟨by decide, by decide⟩) (nf_preV hC hM rfl rfl) rfl rfl hl.1 rfl (lv_room (Nat.le_of_ble_eq_true rfl)) dX3_get_32 ⟨Nat.le_refl _, Nat.le_refl _⟩) hM (fun H locs hM => ?_)
        refine W.eq (g2 := F0 m 35 ls [.ref (ad 8 (mp sz))]) rfl ?_
        refine lv_pop (pc := 35) hx hb dX3_get_35 rfl ?_
        refine lv_iconst (pc := 36) (v := 1) hx hb dX3_get_36 (by decide) ?_
        exact hret _ _ _ _ _ _ _ _ (by simp [nb_I, xs_getB, hq1, h3, h4]) (by simp [xs_getI, xs_getB, hq1, h3, h4] <;> rfl) (by simp [xs_getJ, xs_getB, hq1, h3, h4] <;> rfl) rfl hM dX3_get_37
      · have h4 := nb_1 h4
        refine lv_iconst (pc := 25) (v := 0) hx hb dX3_get_25 (by decide) ?_
        exact hret _ _ _ _ _ _ _ _ (by simp [nb_I, xs_getB, hq1, h3, h4]) (by simp [xs_getI, xs_getB, hq1, h3, h4] <;> rfl) (by simp [xs_getJ, xs_getB, hq1, h3, h4] <;> rfl) rfl hM dX3_get_26
set_option maxHeartbeats 4000000 in
set_option maxRecDepth 100000 in
theorem ct_X3_put {id key v : Int32} (hn : I 0 0 1 = nI nn) (hnn : nn ≤ 12) (hs : I 3 0 1 = nI sz) (hsz0 : sz ≤ 20) (hmp : ∀ j, j < 21 → mp j < 21) (hk : I 0 0 3 = nI kc) (hkk : kc ≤ 10) : nf_Ti l yX3_put wsX3_put 2 48 D vwCl (xT cs) Bs (xS cs nn) ad [.ref (ad 0 0), .int id, .int key, .int v] I J (xP nn mp) (nb_I (xs_putB I nn kc id key)) (xs_putI I nn kc (mp sz) id key) (xs_putJ I J nn kc (mp sz) id key v) (xP nn mp) := by
  refine nf_enterz (cc := cX3_put) (maxL := 5) (by decide) rfl (Nat.le_of_ble_eq_true rfl) ?_
  intro p e s m below meth c ls Q hC hM hl hret
  have hx := hC.1.1
  have hb := hC.1.2.1
  have hl : lv_has ls 5 [(0, .ref (ad 0 0)), (1, .int id), (2, .int key), (3, .int v)] := hl
  have hinX0 : ∀ w ∈ u_ws RX0 TX0 9, w ∈ wsX3_put := fun w h => List.mem_cons_of_mem _ (inX0 w h)
  have hinX3 : ∀ w ∈ u_ws RX3 TX3 5, w ∈ wsX3_put := fun w h => List.mem_cons_of_mem _ (inX3 w h)
  refine lv_aload_n (pc := 0) hx hb dX3_put_0 rfl (lv_at hl 0 rfl) ?_
  refine lv_iload_n (pc := 1) hx hb dX3_put_1 rfl (lv_at hl 1 rfl) ?_
  refine nf_callq (pc := 2) (va_runV (As := [.int id]) (rest := []) hC.1 (ct_X3_memberWith (id := id) hn hnn) (cwV 1 hC.1.2.2.2.2 (gd_V wM_X3_47 wi_X3_memberWith wsel_X3_memberWith wini_X3 wcode_X3_memberWith) rfl rfl rfl (by decide +kernel) ⟨by decide, by decide⟩) (nf_preV hC hM rfl rfl) rfl rfl hl.1 rfl (lv_room (Nat.le_of_ble_eq_true rfl)) dX3_put_2 ⟨Nat.le_refl _, Nat.le_refl _⟩) hM (fun H locs hM => ?_)
  cases hq1 : xs_memb I nn id with
  | none =>
    simp only [hq1, Option.map_none, va_rf]
    refine lv_ifnullN (pc := 5) (tgt := 33) hx hb dX3_put_5 (by decide) ?_
    refine lv_iconst (pc := 33) (v := 0) hx hb dX3_put_33 (by decide) ?_
    exact hret _ _ _ _ _ _ _ _ (by simp [nb_I, xs_putB, hq1]) (by simp [xs_putI, hq1] <;> rfl) (by simp [xs_putJ, hq1] <;> rfl) rfl hM dX3_put_34
  | some i2 =>
    simp only [hq1, Option.map_some, va_rf]
    have hq1l := xs_memb_lt hq1
    refine lv_ifnull (pc := 5) hx hb dX3_put_5 ?_
    refine lv_iload_n (pc := 8) hx hb dX3_put_8 rfl (lv_at hl 2 rfl) ?_
    refine nf_calli (pc := 9) (va_runS (As := [.int key]) (rest := []) hC.1 (ct_X3_isId) (cwS 1 hC.1.2.2.2.2 (gd_S wM_X3_33 wst_X3_isId wini_X3 wcode_X3_isId) rfl rfl rfl (by decide +kernel) ⟨by decide, by decide⟩) (nf_preS hC hM) rfl rfl hl.1 rfl (lv_room (Nat.le_of_ble_eq_true rfl)) dX3_put_9 ⟨Nat.le_refl _, Nat.le_refl _⟩) hM (fun H locs hM => ?_)
    refine lv_if_eq (pc := 12) (tgt := 33) hx hb dX3_put_12 (by decide) (fun h3 => ?_) (fun h3 => ?_)
    · have h3 := nb_0 h3
      refine lv_iconst (pc := 33) (v := 0) hx hb dX3_put_33 (by decide) ?_
      exact hret _ _ _ _ _ _ _ _ (by simp [nb_I, xs_putB, hq1, h3]) (by simp [xs_putI, hq1, h3] <;> rfl) (by simp [xs_putJ, hq1, h3] <;> rfl) rfl hM dX3_put_34
    · have h3 := nb_1 h3
      refine lv_aload_n (pc := 15) hx hb dX3_put_15 rfl (lv_at hl 0 rfl) ?_
      refine nf_getr (pc := 16) hC hinX3 hM rfl rfl 4 (by decide) (List.mem_cons_of_mem _ wF_X3_29) rfl dX3_put_16 ?_
      refine nf_calli (pc := 19) (va_runV (As := []) (rest := []) hC.1 (ct_X2_isFull) (cwV 0 hC.1.2.2.2.2 (gd_V wM_X3_50 wi_X2_isFull wsel_X2_isFull wini_X2 wcode_X2_isFull) rfl rfl rfl (by decide +kernel) ⟨by decide, by decide⟩) (nf_preV hC hM rfl rfl) rfl rfl hl.1 rfl (lv_room (Nat.le_of_ble_eq_true rfl)) dX3_put_19 ⟨Nat.le_refl _, Nat.le_refl _⟩) hM (fun H locs hM => ?_)
      refine lv_if_ne (pc := 22) (tgt := 33) hx hb dX3_put_22 (by decide) (fun h4 => ?_) (fun h4 => ?_)
      · have h4 := nb_1 h4
        refine lv_iconst (pc := 33) (v := 0) hx hb dX3_put_33 (by decide) ?_
        exact hret _ _ _ _ _ _ _ _ (by simp [nb_I, xs_putB, hq1, h3, h4]) (by simp [xs_putI, hq1, h3, h4] <;> rfl) (by simp [xs_putJ, hq1, h3, h4] <;> rfl) rfl hM dX3_put_34
      · have h4 := nb_0 h4
        have hsz : sz < 20 := xs_full_n hs (by omega) h4
        have hon := hmp sz (by omega)
        refine lv_aload_n (pc := 25) hx hb dX3_put_25 rfl (lv_at hl 0 rfl) ?_
        refine lv_iload_n (pc := 26) hx hb dX3_put_26 rfl (lv_at hl 2 rfl) ?_
        refine nf_calli (pc := 27) (va_runV (As := [.int key]) (rest := []) hC.1 (ct_X3_takeKey (key := key) hk hkk) (cwV 1 hC.1.2.2.2.2 (gd_V wM_X3_77 wi_X3_takeKey wsel_X3_takeKey wini_X3 wcode_X3_takeKey) rfl rfl rfl (by decide +kernel) ⟨by decide, by decide⟩) (nf_preV hC hM rfl rfl) rfl rfl hl.1 rfl (lv_room (Nat.le_of_ble_eq_true rfl)) dX3_put_27 ⟨Nat.le_refl _, Nat.le_refl _⟩) hM (fun H locs hM => ?_)
        refine lv_if_ne (pc := 30) (tgt := 35) hx hb dX3_put_30 (by decide) (fun h5 => ?_) (fun h5 => ?_)
        · have h5 := nb_1 h5
          refine lv_aload_n (pc := 35) hx hb dX3_put_35 rfl (lv_at hl 0 rfl) ?_
          refine lv_iload_n (pc := 36) hx hb dX3_put_36 rfl (lv_at hl 1 rfl) ?_
          refine lv_iload_n (pc := 37) hx hb dX3_put_37 rfl (lv_at hl 1 rfl) ?_
          refine lv_iconst (pc := 38) (v := 3) hx hb dX3_put_38 (by decide) ?_
          refine lv_iload_n (pc := 39) hx hb dX3_put_39 rfl (lv_at hl 2 rfl) ?_
          refine nf_callq (pc := 40) (va_runV (As := [.int id, .int id, .int 3, .int key]) (rest := []) hC.1 (ct_X3_sendFind (tz := id) (ak := id) (pu := 3) (ky := key) (sz := sz) (by simpa [xs_tkI_row] using hs) hsz hmp) (cwV 4 hC.1.2.2.2.2 (gd_V wM_X3_54 wi_X3_sendFind wsel_X3_sendFind wini_X3 wcode_X3_sendFind) rfl rfl rfl (by decide +kernel) ⟨by decide, by decide⟩) (nf_preV hC hM rfl rfl) rfl rfl hl.1 rfl (lv_room (Nat.le_of_ble_eq_true rfl)) dX3_put_40 ⟨Nat.le_refl _, Nat.le_refl _⟩) hM (fun H locs hM => ?_)
          refine W.eq (g2 := F0 m 43 ls [.ref (ad 8 (mp sz))]) rfl ?_
          refine lv_astore (pc := 43) (lv' := [(4, .ref (ad 8 (mp sz))), (0, .ref (ad 0 0)), (1, .int id), (2, .int key), (3, .int v)]) hx hb dX3_put_43 hl (by decide) rfl (fun ls hl => ?_)
          refine lv_aload (pc := 45) hx hb dX3_put_45 (lv_at hl 0 rfl) ?_
          refine lv_iload_n (pc := 47) hx hb dX3_put_47 rfl (lv_at hl 4 rfl) ?_
          refine lv_i2l (pc := 48) hx hb dX3_put_48 rfl ?_
          refine nf_putl (pc := 49) hC hinX0 tyX0 tyX0_ok nmX0 hM (xS_8 (by first | assumption | omega)) rfl 8 (by decide) (List.mem_cons_of_mem _ wF_X3_80) rfl (by decide +kernel) rfl dX3_put_49 (fun H locs hM => ?_)
          refine lv_iconst (pc := 52) (v := 1) hx hb dX3_put_52 (by decide) ?_
          exact hret _ _ _ _ _ _ _ _ (by simp [nb_I, xs_putB, hq1, h3, h4, h5]) (by simp [xs_putI, hq1, h3, h4, h5] <;> rfl) (by simp [xs_putJ, hq1, h3, h4, h5] <;> rfl) rfl hM dX3_put_53
        · have h5 := nb_0 h5
          refine lv_iconst (pc := 33) (v := 0) hx hb dX3_put_33 (by decide) ?_
          exact hret _ _ _ _ _ _ _ _ (by simp [nb_I, xs_putB, hq1, h3, h4, h5]) (by simp [xs_putI, hq1, h3, h4, h5] <;> rfl) (by simp [xs_putJ, hq1, h3, h4, h5] <;> rfl) rfl hM dX3_put_34
end XG
end
section
/-! What each method of the model answers and changes, as functions. -/
def ys_isId (x : Int32) : Bool := if x < 0 then false else if 255 < x then false else true
theorem ys_isId_ix {x : Int32} (h : ys_isId x = true) : ∃ n, n < 256 ∧ x = nI n := by
  unfold ys_isId at h
  split at h
  · cases h
  next h1 =>
    split at h
    · cases h
    next h2 =>
      rcases pk_ix x (n := 256) (by decide) with h3 | h3 | h3
      · exact absurd h3 h1
      · exact absurd (Int32.lt_iff_toInt_lt.mpr (by have := Int32.le_iff_toInt_le.mp h3; rw [nI_toInt (by decide)] at this; have e : (255 : Int32).toInt = 255 := by decide +kernel
                                                    omega)) h2
      · exact h3
def ys_mem (I : nf_I) (x : Int32) : Bool := if ys_isId x = false then false else if I 21 0 x.toNatClampNeg = 2 then true else false
def ys_nx (y : Int32) : Int32 := y + 1 - (y + 1) / 256 * 256
def ys_pl (x b : Int32) : Nat → Int32 → Bool
  | 0, _ => false
  | n + 1, y => if ys_nx y = x then true else if ys_nx y = b then false else ys_pl x b n (ys_nx y)
def ys_past (x a b : Int32) : Bool := ys_pl x b 256 a
def ys_btw (x a b : Int32) : Bool := if x = b then false else ys_past x a b
def ys_fl (I : nf_I) (st : Int32) : Nat → Int32 → Int32
  | 0, _ => -1
  | n + 1, x => if I 21 0 x.toNatClampNeg = 2 then x else ys_fl I st n ((x + st) &&& 255)
def ys_first (I : nf_I) (fr st : Int32) : Int32 := ys_fl I st 256 (fr &&& 255)
def ys_po1 (I : nf_I) (rwn : Nat) (kd tz ky ak : Int32) : nf_I := nf_iu (nf_iu (nf_iu (nf_iu (nf_iu (nf_iu (nf_iu I 31 0 rwn kd) 32 0 rwn tz) 33 0 rwn ky) 36 0 rwn ak) 34 0 rwn 0) 35 0 rwn 0) 37 0 rwn 0
def ys_po (I : nf_I) (rwn : Nat) (kd tz ky ak : Int32) : nf_I := nf_iu (ys_po1 I rwn kd tz ky ak) 20 0 13 (ys_po1 I rwn kd tz ky ak 20 0 13 + 1)
def ys_poJ (J : nf_J) (rwn : Nat) : nf_J := nf_ju J 38 0 rwn 0
theorem ys_po_row {I : nf_I} {rwn : Nat} (kd tz ky ak : Int32) (hr : I 20 0 13 = nI rwn) : ys_po I rwn kd tz ky ak 20 0 13 = nI (rwn + 1) := by
  simp [ys_po, ys_po1, nf_iu, hr, nI_1]
def ys_cp1 (I : nf_I) (f a q : Nat) : nf_I := nf_iu I q 0 a (I q 0 f)
def ys_cp (I : nf_I) (f a : Nat) : nf_I := ys_cp1 (ys_cp1 (ys_cp1 (ys_cp1 (ys_cp1 (ys_cp1 (ys_cp1 I f a 31) f a 32) f a 33) f a 34) f a 35) f a 36) f a 37
def ys_cpJ (J : nf_J) (f a : Nat) : nf_J := nf_ju J 38 0 a (J 38 0 f)
def ys_ask (I : nf_I) (rwn : Nat) (mb wd why fi : Int32) : nf_I := nf_iu (nf_iu (ys_po I rwn 1 mb (wd &&& 255) mb) 34 0 rwn why) 35 0 rwn fi
def ys_askJ (J : nf_J) (rwn : Nat) (v : Int64) : nf_J := nf_ju (ys_poJ J rwn) 38 0 rwn v
def ys_ea (I : nf_I) (mb wd : Int32) : Nat → Nat → Int32 → Int32
  | 0, _, f => f
  | n + 1, j, f => ys_ea I mb wd n (j + 1) (if I 27 0 j = mb then (if I 28 0 j = wd then nI j else f) else f)
def ys_eat (I : nf_I) (kp : Nat) (mb wd : Int32) : Int32 := ys_ea I mb wd kp 0 (-1)
theorem ys_ea_c {I : nf_I} {mb wd : Int32} : ∀ {n j : Nat} {f : Int32}, ys_ea I mb wd n j f = f ∨ ∃ q, j ≤ q ∧ q < n + j ∧ ys_ea I mb wd n j f = nI q ∧ I 27 0 q = mb ∧ I 28 0 q = wd
  | 0, j, f => Or.inl rfl
  | n + 1, j, f => by
    unfold ys_ea
    rcases ys_ea_c (I := I) (mb := mb) (wd := wd) (n := n) (j := j + 1) (f := if I 27 0 j = mb then (if I 28 0 j = wd then nI j else f) else f) with h | ⟨q, h1, h2, h3, h4⟩
    · rw [h]
      by_cases c1 : I 27 0 j = mb
      · by_cases c2 : I 28 0 j = wd
        · rw [if_pos c1, if_pos c2]
          exact Or.inr ⟨j, Nat.le_refl _, by omega, rfl, c1, c2⟩
        · rw [if_pos c1, if_neg c2]
          exact Or.inl rfl
      · rw [if_neg c1]
        exact Or.inl rfl
    · exact Or.inr ⟨q, by omega, by omega, h3, h4⟩
theorem ys_eat_c (I : nf_I) (kp : Nat) (mb wd : Int32) : ys_eat I kp mb wd = -1 ∨ ∃ q, q < kp ∧ ys_eat I kp mb wd = nI q ∧ I 27 0 q = mb ∧ I 28 0 q = wd := by
  rcases ys_ea_c (I := I) (mb := mb) (wd := wd) (n := kp) (j := 0) (f := -1) with h | ⟨q, h1, h2, h3, h4⟩
  · exact Or.inl h
  · exact Or.inr ⟨q, by omega, h3, h4⟩
def ys_kp0 (I : nf_I) (kp : Nat) (mb wd v : Int32) : nf_I := nf_iu (nf_iu (nf_iu (nf_iu I 20 0 7 (I 20 0 7 + 1)) 27 0 kp mb) 28 0 kp wd) 29 0 kp v
def ys_kp (I : nf_I) (kp : Nat) (mb wd v : Int32) : nf_I := if 0 ≤ ys_eat I kp mb wd then nf_iu I 29 0 (ys_eat I kp mb wd).toNatClampNeg v else ys_kp0 I kp mb wd v
def ys_sh (I : nf_I) (q j : Nat) : nf_I := fun a b c => if (a = 27 ∨ a = 28 ∨ a = 29) ∧ b = 0 ∧ q ≤ c ∧ c < j then I a b (c + 1) else I a b c
theorem ys_sh_0 (I : nf_I) (q : Nat) : ys_sh I q q = I := by
  funext a b c
  unfold ys_sh
  rw [if_neg (by omega)]
def ys_sh1 (S : nf_I) (a j : Nat) : nf_I := nf_iu S a 0 j (S a 0 (j + 1))
theorem ys_sh_s (I : nf_I) {q j : Nat} (h : q ≤ j) : ys_sh1 (ys_sh1 (ys_sh1 (ys_sh I q j) 27 j) 28 j) 29 j = ys_sh I q (j + 1) := by
  have r : ∀ a, a = 27 ∨ a = 28 ∨ a = 29 → ys_sh I q j a 0 (j + 1) = I a 0 (j + 1) := by
    intro a ha
    unfold ys_sh
    rw [if_neg (by omega)]
  have e27 := r 27 (Or.inl rfl)
  have e28 := r 28 (Or.inr (Or.inl rfl))
  have e29 := r 29 (Or.inr (Or.inr rfl))
  have x1 : ys_sh1 (ys_sh I q j) 27 j = nf_iu (ys_sh I q j) 27 0 j (I 27 0 (j + 1)) := by unfold ys_sh1; rw [e27]
  have x2 : ys_sh1 (ys_sh1 (ys_sh I q j) 27 j) 28 j = nf_iu (nf_iu (ys_sh I q j) 27 0 j (I 27 0 (j + 1))) 28 0 j (I 28 0 (j + 1)) := by
    rw [x1]
    unfold ys_sh1
    rw [nf_iu_n (ys_sh I q j) _ (by omega), e28]
  have x3 : ys_sh1 (ys_sh1 (ys_sh1 (ys_sh I q j) 27 j) 28 j) 29 j = nf_iu (nf_iu (nf_iu (ys_sh I q j) 27 0 j (I 27 0 (j + 1))) 28 0 j (I 28 0 (j + 1))) 29 0 j (I 29 0 (j + 1)) := by
    rw [x2]
    unfold ys_sh1
    rw [nf_iu_n _ _ (by omega), nf_iu_n (ys_sh I q j) _ (by omega), e29]
  rw [x3]
  funext a b c
  unfold nf_iu ys_sh
  by_cases c9 : a = 29 ∧ b = 0 ∧ c = j
  · obtain ⟨rfl, rfl, rfl⟩ := c9
    rw [if_pos ⟨rfl, rfl, rfl⟩, if_pos (by omega)]
  · rw [if_neg c9]
    by_cases c8 : a = 28 ∧ b = 0 ∧ c = j
    · obtain ⟨rfl, rfl, rfl⟩ := c8
      rw [if_pos ⟨rfl, rfl, rfl⟩, if_pos (by omega)]
    · rw [if_neg c8]
      by_cases c7 : a = 27 ∧ b = 0 ∧ c = j
      · obtain ⟨rfl, rfl, rfl⟩ := c7
        rw [if_pos ⟨rfl, rfl, rfl⟩, if_pos (by omega)]
      · rw [if_neg c7]
        by_cases hc : (a = 27 ∨ a = 28 ∨ a = 29) ∧ b = 0 ∧ q ≤ c ∧ c < j
        · rw [if_pos hc, if_pos (by omega)]
        · rw [if_neg hc, if_neg (by omega)]
def ys_dr (I : nf_I) (kp q : Nat) : nf_I := ys_sh (nf_iu I 20 0 7 (I 20 0 7 - 1)) q (kp - 1)
end
section
/-! The model: leaves. -/
section YL
variable {l : Launch} {D : va_G} {cs : Nat → ClassId} {Bs nn rwn kp : Nat} {ad : nf_A} {I : nf_I} {J : nf_J} {P : nf_P}
set_option maxHeartbeats 4000000 in
set_option maxRecDepth 100000 in
theorem ct_X4_isId {x : Int32}  : nf_Ti l yX4_isId wsX4_isId 0 0 D vwCl (xT cs) Bs (xS cs nn) ad [.int x] I J P (nb_I (ys_isId x)) I J P := by
  refine nf_enterz (cc := cX4_isId) (maxL := 1) (by decide) rfl (Nat.le_of_ble_eq_true rfl) ?_
  intro p e s m below meth c ls Q hC hM hl hret
  have hx := hC.1.1
  have hb := hC.1.2.1
  have hl : lv_has ls 1 [(0, .int x)] := hl
  refine lv_iload_n (pc := 0) hx hb dX4_isId_0 rfl (lv_at hl 0 rfl) ?_
  refine lv_if_lt (pc := 1) (tgt := 15) hx hb dX4_isId_1 (by decide) (fun h1 => ?_) (fun h1 => ?_)
  · skip
    refine lv_iconst (pc := 15) (v := 0) hx hb dX4_isId_15 (by decide) ?_
    exact hret _ _ _ _ _ _ _ _ (by simp [nb_I, ys_isId, h1]) rfl rfl rfl hM dX4_isId_16
  · skip
    refine lv_iload_n (pc := 4) hx hb dX4_isId_4 rfl (lv_at hl 0 rfl) ?_
    refine lv_sipush (pc := 5) (v := 255) hx hb dX4_isId_5 (by decide) ?_
    refine lv_icmp_gt (pc := 8) (tgt := 15) hx hb dX4_isId_8 (by decide) (fun h2 => ?_) (fun h2 => ?_)
    · skip
      refine lv_iconst (pc := 15) (v := 0) hx hb dX4_isId_15 (by decide) ?_
      exact hret _ _ _ _ _ _ _ _ (by simp [nb_I, ys_isId, h1, h2]) rfl rfl rfl hM dX4_isId_16
    · skip
      refine lv_iconst (pc := 11) (v := 1) hx hb dX4_isId_11 (by decide) ?_
      refine lv_goto (pc := 12) (tgt := 16) hx hb dX4_isId_12 (by decide) ?_
      exact hret _ _ _ _ _ _ _ _ (by simp [nb_I, ys_isId, h1, h2]) rfl rfl rfl hM dX4_isId_16
set_option maxHeartbeats 4000000 in
set_option maxRecDepth 100000 in
theorem ct_X4_isMember {x : Int32}  : nf_Ti l yX4_isMember wsX4_isMember 1 20 D vwCl (xT cs) Bs (xS cs nn) ad [.ref (ad 20 0), .int x] I J P (nb_I (ys_mem I x)) I J P := by
  refine nf_enterz (cc := cX4_isMember) (maxL := 2) (by decide) rfl (Nat.le_of_ble_eq_true rfl) ?_
  intro p e s m below meth c ls Q hC hM hl hret
  have hx := hC.1.1
  have hb := hC.1.2.1
  have hl : lv_has ls 2 [(0, .ref (ad 20 0)), (1, .int x)] := hl
  have hinX4 : ∀ w ∈ u_ws RX4 TX4 22, w ∈ wsX4_isMember := fun w h => List.mem_cons_of_mem _ (inX4 w h)
  refine lv_iload_n (pc := 0) hx hb dX4_isMember_0 rfl (lv_at hl 1 rfl) ?_
  refine nf_calli (pc := 1) (va_runS (As := [.int x]) (rest := []) hC.1 (ct_X4_isId) (cwS 1 hC.1.2.2.2.2 (gd_S wM_X4_67 wst_X4_isId wini_X4 wcode_X4_isId) rfl rfl rfl (by decide +kernel) ⟨by decide, by decide⟩) (nf_preS hC hM) rfl rfl hl.1 rfl (lv_room (Nat.le_of_ble_eq_true rfl)) dX4_isMember_1 ⟨Nat.le_refl _, Nat.le_refl _⟩) hM (fun H locs hM => ?_)
  refine lv_if_eq (pc := 4) (tgt := 21) hx hb dX4_isMember_4 (by decide) (fun h1 => ?_) (fun h1 => ?_)
  · have h1 := nb_0 h1
    refine lv_iconst (pc := 21) (v := 0) hx hb dX4_isMember_21 (by decide) ?_
    exact hret _ _ _ _ _ _ _ _ (by simp [nb_I, ys_mem, h1]) rfl rfl rfl hM dX4_isMember_22
  · have h1 := nb_1 h1
    obtain ⟨xn, hxn, hxne⟩ := ys_isId_ix h1
    refine lv_aload_n (pc := 7) hx hb dX4_isMember_7 rfl (lv_at hl 0 rfl) ?_
    refine nf_getr (pc := 8) hC hinX4 hM rfl rfl 1 (by decide) (List.mem_cons_of_mem _ wF_X4_7) rfl dX4_isMember_8 ?_
    refine lv_iload_n (pc := 11) hx hb dX4_isMember_11 rfl (lv_at hl 1 rfl) ?_
    refine nf_iald (pc := 12) hC hM 0 rfl rfl xn hxne (by omega) (by decide) dX4_isMember_12 ?_
    refine lv_iconst (pc := 13) (v := 2) hx hb dX4_isMember_13 (by decide) ?_
    refine lv_icmp_ne (pc := 14) (tgt := 21) hx hb dX4_isMember_14 (by decide) (fun h2 => ?_) (fun h2 => ?_)
    · skip
      refine lv_iconst (pc := 21) (v := 0) hx hb dX4_isMember_21 (by decide) ?_
      exact hret _ _ _ _ _ _ _ _ (by rw [ys_mem, if_neg (by rw [h1]; decide), hxne, nI_clamp (by omega), if_neg h2]; rfl) rfl rfl rfl hM dX4_isMember_22
    · skip
      refine lv_iconst (pc := 17) (v := 1) hx hb dX4_isMember_17 (by decide) ?_
      refine lv_goto (pc := 18) (tgt := 22) hx hb dX4_isMember_18 (by decide) ?_
      exact hret _ _ _ _ _ _ _ _ (by rw [ys_mem, if_neg (by rw [h1]; decide), hxne, nI_clamp (by omega), if_pos h2]; rfl) rfl rfl rfl hM dX4_isMember_22
set_option maxHeartbeats 4000000 in
set_option maxRecDepth 100000 in
theorem ct_X4_past {x a b : Int32}  : nf_Ti l yX4_past wsX4_past 0 0 D vwCl (xT cs) Bs (xS cs nn) ad [.int x, .int a, .int b] I J P (nb_I (ys_past x a b)) I J P := by
  refine nf_enterz (cc := cX4_past) (maxL := 5) (by decide) rfl (Nat.le_of_ble_eq_true rfl) ?_
  intro p e s m below meth c ls Q hC hM hl hret
  have hx := hC.1.1
  have hb := hC.1.2.1
  have hl : lv_has ls 5 [(0, .int x), (1, .int a), (2, .int b)] := hl
  refine lv_iload_n (pc := 0) hx hb dX4_past_0 rfl (lv_at hl 1 rfl) ?_
  refine lv_istore_n (pc := 1) (lv' := [(3, .int a), (0, .int x), (1, .int a), (2, .int b)]) hx hb dX4_past_1 rfl hl (by decide) rfl (fun ls hl => ?_)
  refine lv_iconst (pc := 2) (v := 0) hx hb dX4_past_2 (by decide) ?_
  refine lv_istore (pc := 3) (lv' := [(4, .int 0), (3, .int a), (0, .int x), (1, .int a), (2, .int b)]) hx hb dX4_past_3 hl (by decide) rfl (fun ls hl => ?_)
  have loop5 : ∀ (n : Nat) (j : Nat) (y : Int32) (ls : Array Slot) (H : Heap) (locs : List Loc), 256 - j < n → (j ≤ 256) → (ys_past x a b = ys_pl x b (256 - j) y) → nf_M D vwCl Bs (xS cs nn) ad I J P s.heap H locs → lv_has ls 5 [(4, .int (nI j)), (3, .int y), (0, .int x), (1, .int a), (2, .int b)] → W p l e (nf_Rm 0 0) s m ([.int x, .int a, .int b] : List Value).toArray below meth c H locs 0 0 Q (F0 m 5 ls []) := by
    intro n
    induction n with
    | zero => exact fun _ _ _ _ _ hmz => absurd hmz (Nat.not_lt_zero _)
    | succ n ihloop5 =>
      intro j y ls H locs hmz hjn hf hM hl
      refine lv_iload (pc := 5) hx hb dX4_past_5 (lv_at hl 0 rfl) ?_
      refine lv_sipush (pc := 7) (v := nI 256) hx hb dX4_past_7 (by decide) ?_
      refine lv_icmp_ge (pc := 10) (tgt := 41) hx hb dX4_past_10 (by decide) (fun hh => ?_) (fun hh => ?_)
      · have hj1 : 256 ≤ j := (nI_leI (by omega) (by omega)).mp (by exact hh)
        refine lv_iconst (pc := 41) (v := 0) hx hb dX4_past_41 (by decide) ?_
        exact hret _ _ _ _ _ _ _ _ (by rw [hf, show 256 - j = 0 by omega]; rfl) rfl rfl rfl hM dX4_past_42
      · have hj1 : j < 256 := Nat.lt_of_not_le (fun z => hh (by exact (nI_leI (by omega) (by omega)).mpr z))
        refine lv_iload_n (pc := 13) hx hb dX4_past_13 rfl (lv_at hl 1 rfl) ?_
        refine lv_iconst (pc := 14) (v := 1) hx hb dX4_past_14 (by decide) ?_
        refine lv_iadd (pc := 15) hx hb dX4_past_15 ?_
        refine lv_sipush (pc := 16) (v := 256) hx hb dX4_past_16 (by decide) ?_
        refine lv_irem (pc := 19) hx hb dX4_past_19 (by decide) ?_
        refine lv_istore_n (pc := 20) (lv' := [(3, .int ((y + 1) - (y + 1) / 256 * 256)), (4, .int (nI j)), (0, .int x), (1, .int a), (2, .int b)]) hx hb dX4_past_20 rfl hl (by decide) rfl (fun ls hl => ?_)
        refine lv_iload_n (pc := 21) hx hb dX4_past_21 rfl (lv_at hl 0 rfl) ?_
        refine lv_iload_n (pc := 22) hx hb dX4_past_22 rfl (lv_at hl 2 rfl) ?_
        refine lv_icmp_ne (pc := 23) (tgt := 28) hx hb dX4_past_23 (by decide) (fun h2 => ?_) (fun h2 => ?_)
        · skip
          refine lv_iload_n (pc := 28) hx hb dX4_past_28 rfl (lv_at hl 0 rfl) ?_
          refine lv_iload_n (pc := 29) hx hb dX4_past_29 rfl (lv_at hl 4 rfl) ?_
          refine lv_icmp_ne (pc := 30) (tgt := 35) hx hb dX4_past_30 (by decide) (fun h3 => ?_) (fun h3 => ?_)
          · skip
            refine lv_iinc (pc := 35) (k := 1) (v := nI (j + 1)) (lv' := [(4, .int (nI (j + 1))), (3, .int ((y + 1) - (y + 1) / 256 * 256)), (0, .int x), (1, .int a), (2, .int b)]) hx hb dX4_past_35 hl rfl (nI_1 _) (by decide) rfl (fun ls hl => ?_)
            refine lv_goto (pc := 38) (tgt := 5) hx hb dX4_past_38 (by decide) ?_
            exact ihloop5 (j + 1) (ys_nx y) ls _ _ (by omega) (by omega) (by rw [hf, show 256 - j = (256 - (j + 1)) + 1 by omega, ys_pl, if_neg (show ¬ ys_nx y = x from h2), if_neg (show ¬ ys_nx y = b from h3)]) hM hl
          · skip
            refine lv_iconst (pc := 33) (v := 0) hx hb dX4_past_33 (by decide) ?_
            exact hret _ _ _ _ _ _ _ _ (by rw [hf, show 256 - j = (256 - (j + 1)) + 1 by omega, ys_pl, if_neg (show ¬ ys_nx y = x from h2), if_pos (show ys_nx y = b from h3)]; rfl) rfl rfl rfl hM dX4_past_34
        · skip
          refine lv_iconst (pc := 26) (v := 1) hx hb dX4_past_26 (by decide) ?_
          exact hret _ _ _ _ _ _ _ _ (by rw [hf, show 256 - j = (256 - (j + 1)) + 1 by omega, ys_pl, if_pos (show ys_nx y = x from h2)]; rfl) rfl rfl rfl hM dX4_past_27
  exact loop5 _ 0 a ls _ _ (Nat.lt_succ_self _) (Nat.zero_le _) rfl hM hl
set_option maxHeartbeats 4000000 in
set_option maxRecDepth 100000 in
theorem ct_X4_between {x a b : Int32}  : nf_Ti l yX4_between wsX4_between 1 24 D vwCl (xT cs) Bs (xS cs nn) ad [.int x, .int a, .int b] I J P (nb_I (ys_btw x a b)) I J P := by
  refine nf_enterz (cc := cX4_between) (maxL := 3) (by decide) rfl (Nat.le_of_ble_eq_true rfl) ?_
  intro p e s m below meth c ls Q hC hM hl hret
  have hx := hC.1.1
  have hb := hC.1.2.1
  have hl : lv_has ls 3 [(0, .int x), (1, .int a), (2, .int b)] := hl
  refine lv_iload_n (pc := 0) hx hb dX4_between_0 rfl (lv_at hl 0 rfl) ?_
  refine lv_iload_n (pc := 1) hx hb dX4_between_1 rfl (lv_at hl 2 rfl) ?_
  refine lv_icmp_eq (pc := 2) (tgt := 18) hx hb dX4_between_2 (by decide) (fun h1 => ?_) (fun h1 => ?_)
  · skip
    refine lv_iconst (pc := 18) (v := 0) hx hb dX4_between_18 (by decide) ?_
    exact hret _ _ _ _ _ _ _ _ (by simp [nb_I, ys_btw, h1]) rfl rfl rfl hM dX4_between_19
  · skip
    refine lv_iload_n (pc := 5) hx hb dX4_between_5 rfl (lv_at hl 0 rfl) ?_
    refine lv_iload_n (pc := 6) hx hb dX4_between_6 rfl (lv_at hl 1 rfl) ?_
    refine lv_iload_n (pc := 7) hx hb dX4_between_7 rfl (lv_at hl 2 rfl) ?_
    refine nf_calli (pc := 8) (va_runS (As := [.int x, .int a, .int b]) (rest := []) hC.1 (ct_X4_past) (cwS 3 hC.1.2.2.2.2 (gd_S wM_X4_71 wst_X4_past wini_X4 wcode_X4_past) rfl rfl rfl (by decide +kernel) ⟨by decide, by decide⟩) (nf_preS hC hM) rfl rfl hl.1 rfl (lv_room (Nat.le_of_ble_eq_true rfl)) dX4_between_8 ⟨Nat.le_refl _, Nat.le_refl _⟩) hM (fun H locs hM => ?_)
    refine lv_if_eq (pc := 11) (tgt := 18) hx hb dX4_between_11 (by decide) (fun h2 => ?_) (fun h2 => ?_)
    · have h2 := nb_0 h2
      refine lv_iconst (pc := 18) (v := 0) hx hb dX4_between_18 (by decide) ?_
      exact hret _ _ _ _ _ _ _ _ (by simp [nb_I, ys_btw, h1, h2]) rfl rfl rfl hM dX4_between_19
    · have h2 := nb_1 h2
      refine lv_iconst (pc := 14) (v := 1) hx hb dX4_between_14 (by decide) ?_
      refine lv_goto (pc := 15) (tgt := 19) hx hb dX4_between_15 (by decide) ?_
      exact hret _ _ _ _ _ _ _ _ (by simp [nb_I, ys_btw, h1, h2]) rfl rfl rfl hM dX4_between_19
set_option maxHeartbeats 4000000 in
set_option maxRecDepth 100000 in
theorem ct_X4_first {fr st : Int32}  : nf_Ti l yX4_first wsX4_first 0 0 D vwCl (xT cs) Bs (xS cs nn) ad [.ref (ad 20 0), .int fr, .int st] I J P (ys_first I fr st) I J P := by
  refine nf_enteri (cc := cX4_first) (maxL := 5) (by decide) rfl (Nat.le_of_ble_eq_true rfl) ?_
  intro p e s m below meth c ls Q hC hM hl hret
  have hx := hC.1.1
  have hb := hC.1.2.1
  have hl : lv_has ls 5 [(0, .ref (ad 20 0)), (1, .int fr), (2, .int st)] := hl
  have hinX4 : ∀ w ∈ u_ws RX4 TX4 22, w ∈ wsX4_first := fun w h => List.mem_cons_of_mem _ (inX4 w h)
  refine lv_iload_n (pc := 0) hx hb dX4_first_0 rfl (lv_at hl 1 rfl) ?_
  refine lv_sipush (pc := 1) (v := 255) hx hb dX4_first_1 (by decide) ?_
  refine lv_iand (pc := 4) hx hb dX4_first_4 ?_
  refine lv_istore_n (pc := 5) (lv' := [(3, .int (fr &&& 255)), (0, .ref (ad 20 0)), (1, .int fr), (2, .int st)]) hx hb dX4_first_5 rfl hl (by decide) rfl (fun ls hl => ?_)
  refine lv_iconst (pc := 6) (v := 0) hx hb dX4_first_6 (by decide) ?_
  refine lv_istore (pc := 7) (lv' := [(4, .int 0), (3, .int (fr &&& 255)), (0, .ref (ad 20 0)), (1, .int fr), (2, .int st)]) hx hb dX4_first_7 hl (by decide) rfl (fun ls hl => ?_)
  have loop9 : ∀ (n : Nat) (j : Nat) (y : Int32) (ls : Array Slot) (H : Heap) (locs : List Loc), 256 - j < n → (j ≤ 256) → (∃ q : Nat, q < 256 ∧ y = nI q) → (ys_first I fr st = ys_fl I st (256 - j) y) → nf_M D vwCl Bs (xS cs nn) ad I J P s.heap H locs → lv_has ls 5 [(4, .int (nI j)), (3, .int y), (0, .ref (ad 20 0)), (1, .int fr), (2, .int st)] → W p l e (nf_Rm 0 0) s m ([.ref (ad 20 0), .int fr, .int st] : List Value).toArray below meth c H locs 0 0 Q (F0 m 9 ls []) := by
    intro n
    induction n with
    | zero => exact fun _ _ _ _ _ hmz => absurd hmz (Nat.not_lt_zero _)
    | succ n ihloop9 =>
      intro j y ls H locs hmz hjn hx8 hf hM hl
      refine lv_iload (pc := 9) hx hb dX4_first_9 (lv_at hl 0 rfl) ?_
      refine lv_sipush (pc := 11) (v := nI 256) hx hb dX4_first_11 (by decide) ?_
      refine lv_icmp_ge (pc := 14) (tgt := 43) hx hb dX4_first_14 (by decide) (fun hh => ?_) (fun hh => ?_)
      · have hj1 : 256 ≤ j := (nI_leI (by omega) (by omega)).mp (by exact hh)
        refine lv_iconst (pc := 43) (v := -1) hx hb dX4_first_43 (by decide) ?_
        exact hret _ _ _ _ _ _ _ _ (by rw [hf, show 256 - j = 0 by omega]; rfl) rfl rfl rfl hM dX4_first_44
      · have hj1 : j < 256 := Nat.lt_of_not_le (fun z => hh (by exact (nI_leI (by omega) (by omega)).mpr z))
        obtain ⟨xn, hxn, hxe⟩ := hx8
        refine lv_aload_n (pc := 17) hx hb dX4_first_17 rfl (lv_at hl 2 rfl) ?_
        refine nf_getr (pc := 18) hC hinX4 hM rfl rfl 1 (by decide) (List.mem_cons_of_mem _ wF_X4_7) rfl dX4_first_18 ?_
        refine lv_iload_n (pc := 21) hx hb dX4_first_21 rfl (lv_at hl 1 rfl) ?_
        refine nf_iald (pc := 22) hC hM 0 rfl rfl xn hxe (by omega) (by decide) dX4_first_22 ?_
        refine lv_iconst (pc := 23) (v := 2) hx hb dX4_first_23 (by decide) ?_
        refine lv_icmp_ne (pc := 24) (tgt := 29) hx hb dX4_first_24 (by decide) (fun h2 => ?_) (fun h2 => ?_)
        · skip
          refine lv_iload_n (pc := 29) hx hb dX4_first_29 rfl (lv_at hl 1 rfl) ?_
          refine lv_iload_n (pc := 30) hx hb dX4_first_30 rfl (lv_at hl 4 rfl) ?_
          refine lv_iadd (pc := 31) hx hb dX4_first_31 ?_
          refine lv_sipush (pc := 32) (v := 255) hx hb dX4_first_32 (by decide) ?_
          refine lv_iand (pc := 35) hx hb dX4_first_35 ?_
          refine lv_istore_n (pc := 36) (lv' := [(3, .int ((y + st) &&& 255)), (4, .int (nI j)), (0, .ref (ad 20 0)), (1, .int fr), (2, .int st)]) hx hb dX4_first_36 rfl hl (by decide) rfl (fun ls hl => ?_)
          refine lv_iinc (pc := 37) (k := 1) (v := nI (j + 1)) (lv' := [(4, .int (nI (j + 1))), (3, .int ((y + st) &&& 255)), (0, .ref (ad 20 0)), (1, .int fr), (2, .int st)]) hx hb dX4_first_37 hl rfl (nI_1 _) (by decide) rfl (fun ls hl => ?_)
          refine lv_goto (pc := 40) (tgt := 9) hx hb dX4_first_40 (by decide) ?_
          exact ihloop9 (j + 1) ((y + st) &&& 255) ls _ _ (by omega) (by omega) (pk_andE _ 8 (by decide +kernel)) (by rw [hf, show 256 - j = (256 - (j + 1)) + 1 by omega, ys_fl, if_neg (by rw [hxe, nI_clamp (by omega)]; exact h2)]) hM hl
        · skip
          refine lv_iload_n (pc := 27) hx hb dX4_first_27 rfl (lv_at hl 1 rfl) ?_
          exact hret _ _ _ _ _ _ _ _ (by rw [hf, show 256 - j = (256 - (j + 1)) + 1 by omega, ys_fl, if_pos (by rw [hxe, nI_clamp (by omega)]; exact h2)]) rfl rfl rfl hM dX4_first_28
  exact loop9 _ 0 (fr &&& 255) ls _ _ (Nat.lt_succ_self _) (Nat.zero_le _) (pk_andE fr 8 (by decide +kernel)) rfl hM hl
end YL
end
section
/-! The model: post, copy, ask. -/
section YR
variable {l : Launch} {D : va_G} {cs : Nat → ClassId} {Bs nn rwn kp : Nat} {ad : nf_A} {I : nf_I} {J : nf_J} {P : nf_P}
set_option maxHeartbeats 4000000 in
set_option maxRecDepth 100000 in
theorem ct_X4_post {kd tz ky ak : Int32} (hr : I 20 0 13 = nI rwn) (hrw : rwn < 21) : nf_Tv l yX4_post wsX4_post 0 0 D vwCl (xT cs) Bs (xS cs nn) ad [.ref (ad 20 0), .int kd, .int tz, .int ky, .int ak] I J P (ys_po I rwn kd tz ky ak) (ys_poJ J rwn) P := by
  refine nf_enterv (cc := cX4_post) (maxL := 5) (by decide) rfl (Nat.le_of_ble_eq_true rfl) ?_
  intro p e s m below meth c ls Q hC hM hl hret
  have hx := hC.1.1
  have hb := hC.1.2.1
  have hl : lv_has ls 5 [(0, .ref (ad 20 0)), (1, .int kd), (2, .int tz), (3, .int ky), (4, .int ak)] := hl
  have hinX4 : ∀ w ∈ u_ws RX4 TX4 22, w ∈ wsX4_post := fun w h => List.mem_cons_of_mem _ (inX4 w h)
  refine lv_aload_n (pc := 0) hx hb dX4_post_0 rfl (lv_at hl 0 rfl) ?_
  refine nf_getr (pc := 1) hC hinX4 hM rfl rfl 14 (by decide) (List.mem_cons_of_mem _ wF_X4_41) rfl dX4_post_1 ?_
  refine lv_aload_n (pc := 4) hx hb dX4_post_4 rfl (lv_at hl 0 rfl) ?_
  refine nf_geti (pc := 5) hC hinX4 hM rfl rfl 13 (by decide) (List.mem_cons_of_mem _ wF_X4_75) rfl dX4_post_5 ?_
  refine lv_iload_n (pc := 8) hx hb dX4_post_8 rfl (lv_at hl 1 rfl) ?_
  refine nf_iast (pc := 9) hC hM 0 rfl rfl rwn (by simpa [nf_iu] using hr) (by omega) (by decide) dX4_post_9 (fun H locs hM => ?_)
  refine lv_aload_n (pc := 10) hx hb dX4_post_10 rfl (lv_at hl 0 rfl) ?_
  refine nf_getr (pc := 11) hC hinX4 hM rfl rfl 15 (by decide) (List.mem_cons_of_mem _ wF_X4_44) rfl dX4_post_11 ?_
  refine lv_aload_n (pc := 14) hx hb dX4_post_14 rfl (lv_at hl 0 rfl) ?_
  refine nf_geti (pc := 15) hC hinX4 hM rfl rfl 13 (by decide) (List.mem_cons_of_mem _ wF_X4_75) rfl dX4_post_15 ?_
  refine lv_iload_n (pc := 18) hx hb dX4_post_18 rfl (lv_at hl 2 rfl) ?_
  refine nf_iast (pc := 19) hC hM 0 rfl rfl rwn (by simpa [nf_iu] using hr) (by omega) (by decide) dX4_post_19 (fun H locs hM => ?_)
  refine lv_aload_n (pc := 20) hx hb dX4_post_20 rfl (lv_at hl 0 rfl) ?_
  refine nf_getr (pc := 21) hC hinX4 hM rfl rfl 16 (by decide) (List.mem_cons_of_mem _ wF_X4_47) rfl dX4_post_21 ?_
  refine lv_aload_n (pc := 24) hx hb dX4_post_24 rfl (lv_at hl 0 rfl) ?_
  refine nf_geti (pc := 25) hC hinX4 hM rfl rfl 13 (by decide) (List.mem_cons_of_mem _ wF_X4_75) rfl dX4_post_25 ?_
  refine lv_iload_n (pc := 28) hx hb dX4_post_28 rfl (lv_at hl 3 rfl) ?_
  refine nf_iast (pc := 29) hC hM 0 rfl rfl rwn (by simpa [nf_iu] using hr) (by omega) (by decide) dX4_post_29 (fun H locs hM => ?_)
  refine lv_aload_n (pc := 30) hx hb dX4_post_30 rfl (lv_at hl 0 rfl) ?_
  refine nf_getr (pc := 31) hC hinX4 hM rfl rfl 19 (by decide) (List.mem_cons_of_mem _ wF_X4_56) rfl dX4_post_31 ?_
  refine lv_aload_n (pc := 34) hx hb dX4_post_34 rfl (lv_at hl 0 rfl) ?_
  refine nf_geti (pc := 35) hC hinX4 hM rfl rfl 13 (by decide) (List.mem_cons_of_mem _ wF_X4_75) rfl dX4_post_35 ?_
  refine lv_iload (pc := 38) hx hb dX4_post_38 (lv_at hl 4 rfl) ?_
  refine nf_iast (pc := 40) hC hM 0 rfl rfl rwn (by simpa [nf_iu] using hr) (by omega) (by decide) dX4_post_40 (fun H locs hM => ?_)
  refine lv_aload_n (pc := 41) hx hb dX4_post_41 rfl (lv_at hl 0 rfl) ?_
  refine nf_getr (pc := 42) hC hinX4 hM rfl rfl 17 (by decide) (List.mem_cons_of_mem _ wF_X4_50) rfl dX4_post_42 ?_
  refine lv_aload_n (pc := 45) hx hb dX4_post_45 rfl (lv_at hl 0 rfl) ?_
  refine nf_geti (pc := 46) hC hinX4 hM rfl rfl 13 (by decide) (List.mem_cons_of_mem _ wF_X4_75) rfl dX4_post_46 ?_
  refine lv_iconst (pc := 49) (v := 0) hx hb dX4_post_49 (by decide) ?_
  refine nf_iast (pc := 50) hC hM 0 rfl rfl rwn (by simpa [nf_iu] using hr) (by omega) (by decide) dX4_post_50 (fun H locs hM => ?_)
  refine lv_aload_n (pc := 51) hx hb dX4_post_51 rfl (lv_at hl 0 rfl) ?_
  refine nf_getr (pc := 52) hC hinX4 hM rfl rfl 18 (by decide) (List.mem_cons_of_mem _ wF_X4_53) rfl dX4_post_52 ?_
  refine lv_aload_n (pc := 55) hx hb dX4_post_55 rfl (lv_at hl 0 rfl) ?_
  refine nf_geti (pc := 56) hC hinX4 hM rfl rfl 13 (by decide) (List.mem_cons_of_mem _ wF_X4_75) rfl dX4_post_56 ?_
  refine lv_iconst (pc := 59) (v := 0) hx hb dX4_post_59 (by decide) ?_
  refine nf_iast (pc := 60) hC hM 0 rfl rfl rwn (by simpa [nf_iu] using hr) (by omega) (by decide) dX4_post_60 (fun H locs hM => ?_)
  refine lv_aload_n (pc := 61) hx hb dX4_post_61 rfl (lv_at hl 0 rfl) ?_
  refine nf_getr (pc := 62) hC hinX4 hM rfl rfl 20 (by decide) (List.mem_cons_of_mem _ wF_X4_59) rfl dX4_post_62 ?_
  refine lv_aload_n (pc := 65) hx hb dX4_post_65 rfl (lv_at hl 0 rfl) ?_
  refine nf_geti (pc := 66) hC hinX4 hM rfl rfl 13 (by decide) (List.mem_cons_of_mem _ wF_X4_75) rfl dX4_post_66 ?_
  refine lv_iconst (pc := 69) (v := 0) hx hb dX4_post_69 (by decide) ?_
  refine nf_iast (pc := 70) hC hM 0 rfl rfl rwn (by simpa [nf_iu] using hr) (by omega) (by decide) dX4_post_70 (fun H locs hM => ?_)
  refine lv_aload_n (pc := 71) hx hb dX4_post_71 rfl (lv_at hl 0 rfl) ?_
  refine nf_getr (pc := 72) hC hinX4 hM rfl rfl 21 (by decide) (List.mem_cons_of_mem _ wF_X4_62) rfl dX4_post_72 ?_
  refine lv_aload_n (pc := 75) hx hb dX4_post_75 rfl (lv_at hl 0 rfl) ?_
  refine nf_geti (pc := 76) hC hinX4 hM rfl rfl 13 (by decide) (List.mem_cons_of_mem _ wF_X4_75) rfl dX4_post_76 ?_
  refine lv_lconst (pc := 79) (v := 0) hx hb dX4_post_79 (by decide) ?_
  refine nf_last (pc := 80) hC hM 1 rfl rfl rwn (by simpa [nf_iu] using hr) (by omega) (by decide) dX4_post_80 (fun H locs hM => ?_)
  refine lv_aload_n (pc := 81) hx hb dX4_post_81 rfl (lv_at hl 0 rfl) ?_
  refine lv_dup (pc := 82) hx hb dX4_post_82 rfl ?_
  refine nf_geti (pc := 83) hC hinX4 hM rfl rfl 13 (by decide) (List.mem_cons_of_mem _ wF_X4_75) rfl dX4_post_83 ?_
  refine lv_iconst (pc := 86) (v := 1) hx hb dX4_post_86 (by decide) ?_
  refine lv_iadd (pc := 87) hx hb dX4_post_87 ?_
  refine nf_puti (pc := 88) hC hinX4 tyX4 tyX4_ok nmX4 hM rfl rfl 13 (by decide) (List.mem_cons_of_mem _ wF_X4_75) rfl (by decide +kernel) rfl dX4_post_88 (fun H locs hM => ?_)
  exact hret _ _ _ _ _ _ _ rfl rfl rfl hM dX4_post_91
set_option maxHeartbeats 4000000 in
set_option maxRecDepth 100000 in
theorem ct_X4_copy {f t : Nat} (hf : f < 21) (ht : t < 21) : nf_Tv l yX4_copy wsX4_copy 0 0 D vwCl (xT cs) Bs (xS cs nn) ad [.ref (ad 20 0), .int (nI f), .int (nI t)] I J P (ys_cp I f t) (ys_cpJ J f t) P := by
  refine nf_enterv (cc := cX4_copy) (maxL := 3) (by decide) rfl (Nat.le_of_ble_eq_true rfl) ?_
  intro p e s m below meth c ls Q hC hM hl hret
  have hx := hC.1.1
  have hb := hC.1.2.1
  have hl : lv_has ls 3 [(0, .ref (ad 20 0)), (1, .int (nI f)), (2, .int (nI t))] := hl
  have hinX4 : ∀ w ∈ u_ws RX4 TX4 22, w ∈ wsX4_copy := fun w h => List.mem_cons_of_mem _ (inX4 w h)
  refine lv_aload_n (pc := 0) hx hb dX4_copy_0 rfl (lv_at hl 0 rfl) ?_
  refine nf_getr (pc := 1) hC hinX4 hM rfl rfl 14 (by decide) (List.mem_cons_of_mem _ wF_X4_41) rfl dX4_copy_1 ?_
  refine lv_iload_n (pc := 4) hx hb dX4_copy_4 rfl (lv_at hl 2 rfl) ?_
  refine lv_aload_n (pc := 5) hx hb dX4_copy_5 rfl (lv_at hl 0 rfl) ?_
  refine nf_getr (pc := 6) hC hinX4 hM rfl rfl 14 (by decide) (List.mem_cons_of_mem _ wF_X4_41) rfl dX4_copy_6 ?_
  refine lv_iload_n (pc := 9) hx hb dX4_copy_9 rfl (lv_at hl 1 rfl) ?_
  refine nf_iald (pc := 10) hC hM 0 rfl rfl f rfl (by omega) (by decide) dX4_copy_10 ?_
  refine nf_iast (pc := 11) hC hM 0 rfl rfl t rfl (by omega) (by decide) dX4_copy_11 (fun H locs hM => ?_)
  refine lv_aload_n (pc := 12) hx hb dX4_copy_12 rfl (lv_at hl 0 rfl) ?_
  refine nf_getr (pc := 13) hC hinX4 hM rfl rfl 15 (by decide) (List.mem_cons_of_mem _ wF_X4_44) rfl dX4_copy_13 ?_
  refine lv_iload_n (pc := 16) hx hb dX4_copy_16 rfl (lv_at hl 2 rfl) ?_
  refine lv_aload_n (pc := 17) hx hb dX4_copy_17 rfl (lv_at hl 0 rfl) ?_
  refine nf_getr (pc := 18) hC hinX4 hM rfl rfl 15 (by decide) (List.mem_cons_of_mem _ wF_X4_44) rfl dX4_copy_18 ?_
  refine lv_iload_n (pc := 21) hx hb dX4_copy_21 rfl (lv_at hl 1 rfl) ?_
  refine nf_iald (pc := 22) hC hM 0 rfl rfl f rfl (by omega) (by decide) dX4_copy_22 ?_
  refine nf_iast (pc := 23) hC hM 0 rfl rfl t rfl (by omega) (by decide) dX4_copy_23 (fun H locs hM => ?_)
  refine lv_aload_n (pc := 24) hx hb dX4_copy_24 rfl (lv_at hl 0 rfl) ?_
  refine nf_getr (pc := 25) hC hinX4 hM rfl rfl 16 (by decide) (List.mem_cons_of_mem _ wF_X4_47) rfl dX4_copy_25 ?_
  refine lv_iload_n (pc := 28) hx hb dX4_copy_28 rfl (lv_at hl 2 rfl) ?_
  refine lv_aload_n (pc := 29) hx hb dX4_copy_29 rfl (lv_at hl 0 rfl) ?_
  refine nf_getr (pc := 30) hC hinX4 hM rfl rfl 16 (by decide) (List.mem_cons_of_mem _ wF_X4_47) rfl dX4_copy_30 ?_
  refine lv_iload_n (pc := 33) hx hb dX4_copy_33 rfl (lv_at hl 1 rfl) ?_
  refine nf_iald (pc := 34) hC hM 0 rfl rfl f rfl (by omega) (by decide) dX4_copy_34 ?_
  refine nf_iast (pc := 35) hC hM 0 rfl rfl t rfl (by omega) (by decide) dX4_copy_35 (fun H locs hM => ?_)
  refine lv_aload_n (pc := 36) hx hb dX4_copy_36 rfl (lv_at hl 0 rfl) ?_
  refine nf_getr (pc := 37) hC hinX4 hM rfl rfl 17 (by decide) (List.mem_cons_of_mem _ wF_X4_50) rfl dX4_copy_37 ?_
  refine lv_iload_n (pc := 40) hx hb dX4_copy_40 rfl (lv_at hl 2 rfl) ?_
  refine lv_aload_n (pc := 41) hx hb dX4_copy_41 rfl (lv_at hl 0 rfl) ?_
  refine nf_getr (pc := 42) hC hinX4 hM rfl rfl 17 (by decide) (List.mem_cons_of_mem _ wF_X4_50) rfl dX4_copy_42 ?_
  refine lv_iload_n (pc := 45) hx hb dX4_copy_45 rfl (lv_at hl 1 rfl) ?_
  refine nf_iald (pc := 46) hC hM 0 rfl rfl f rfl (by omega) (by decide) dX4_copy_46 ?_
  refine nf_iast (pc := 47) hC hM 0 rfl rfl t rfl (by omega) (by decide) dX4_copy_47 (fun H locs hM => ?_)
  refine lv_aload_n (pc := 48) hx hb dX4_copy_48 rfl (lv_at hl 0 rfl) ?_
  refine nf_getr (pc := 49) hC hinX4 hM rfl rfl 18 (by decide) (List.mem_cons_of_mem _ wF_X4_53) rfl dX4_copy_49 ?_
  refine lv_iload_n (pc := 52) hx hb dX4_copy_52 rfl (lv_at hl 2 rfl) ?_
  refine lv_aload_n (pc := 53) hx hb dX4_copy_53 rfl (lv_at hl 0 rfl) ?_
  refine nf_getr (pc := 54) hC hinX4 hM rfl rfl 18 (by decide) (List.mem_cons_of_mem _ wF_X4_53) rfl dX4_copy_54 ?_
  refine lv_iload_n (pc := 57) hx hb dX4_copy_57 rfl (lv_at hl 1 rfl) ?_
  refine nf_iald (pc := 58) hC hM 0 rfl rfl f rfl (by omega) (by decide) dX4_copy_58 ?_
  refine nf_iast (pc := 59) hC hM 0 rfl rfl t rfl (by omega) (by decide) dX4_copy_59 (fun H locs hM => ?_)
  refine lv_aload_n (pc := 60) hx hb dX4_copy_60 rfl (lv_at hl 0 rfl) ?_
  refine nf_getr (pc := 61) hC hinX4 hM rfl rfl 19 (by decide) (List.mem_cons_of_mem _ wF_X4_56) rfl dX4_copy_61 ?_
  refine lv_iload_n (pc := 64) hx hb dX4_copy_64 rfl (lv_at hl 2 rfl) ?_
  refine lv_aload_n (pc := 65) hx hb dX4_copy_65 rfl (lv_at hl 0 rfl) ?_
  refine nf_getr (pc := 66) hC hinX4 hM rfl rfl 19 (by decide) (List.mem_cons_of_mem _ wF_X4_56) rfl dX4_copy_66 ?_
  refine lv_iload_n (pc := 69) hx hb dX4_copy_69 rfl (lv_at hl 1 rfl) ?_
  refine nf_iald (pc := 70) hC hM 0 rfl rfl f rfl (by omega) (by decide) dX4_copy_70 ?_
  refine nf_iast (pc := 71) hC hM 0 rfl rfl t rfl (by omega) (by decide) dX4_copy_71 (fun H locs hM => ?_)
  refine lv_aload_n (pc := 72) hx hb dX4_copy_72 rfl (lv_at hl 0 rfl) ?_
  refine nf_getr (pc := 73) hC hinX4 hM rfl rfl 20 (by decide) (List.mem_cons_of_mem _ wF_X4_59) rfl dX4_copy_73 ?_
  refine lv_iload_n (pc := 76) hx hb dX4_copy_76 rfl (lv_at hl 2 rfl) ?_
  refine lv_aload_n (pc := 77) hx hb dX4_copy_77 rfl (lv_at hl 0 rfl) ?_
  refine nf_getr (pc := 78) hC hinX4 hM rfl rfl 20 (by decide) (List.mem_cons_of_mem _ wF_X4_59) rfl dX4_copy_78 ?_
  refine lv_iload_n (pc := 81) hx hb dX4_copy_81 rfl (lv_at hl 1 rfl) ?_
  refine nf_iald (pc := 82) hC hM 0 rfl rfl f rfl (by omega) (by decide) dX4_copy_82 ?_
  refine nf_iast (pc := 83) hC hM 0 rfl rfl t rfl (by omega) (by decide) dX4_copy_83 (fun H locs hM => ?_)
  refine lv_aload_n (pc := 84) hx hb dX4_copy_84 rfl (lv_at hl 0 rfl) ?_
  refine nf_getr (pc := 85) hC hinX4 hM rfl rfl 21 (by decide) (List.mem_cons_of_mem _ wF_X4_62) rfl dX4_copy_85 ?_
  refine lv_iload_n (pc := 88) hx hb dX4_copy_88 rfl (lv_at hl 2 rfl) ?_
  refine lv_aload_n (pc := 89) hx hb dX4_copy_89 rfl (lv_at hl 0 rfl) ?_
  refine nf_getr (pc := 90) hC hinX4 hM rfl rfl 21 (by decide) (List.mem_cons_of_mem _ wF_X4_62) rfl dX4_copy_90 ?_
  refine lv_iload_n (pc := 93) hx hb dX4_copy_93 rfl (lv_at hl 1 rfl) ?_
  refine nf_lald (pc := 94) hC hM 1 rfl rfl f rfl (by omega) (by decide) dX4_copy_94 ?_
  refine nf_last (pc := 95) hC hM 1 rfl rfl t rfl (by omega) (by decide) dX4_copy_95 (fun H locs hM => ?_)
  exact hret _ _ _ _ _ _ _ rfl rfl rfl hM dX4_copy_96
set_option maxHeartbeats 4000000 in
set_option maxRecDepth 100000 in
theorem ct_X4_ask {mb wd why fi : Int32} {v : Int64} (hr : I 20 0 13 = nI rwn) (hrw : rwn < 20) : nf_Tv l yX4_ask wsX4_ask 1 24 D vwCl (xT cs) Bs (xS cs nn) ad [.ref (ad 20 0), .int mb, .int wd, .int why, .int fi, .long v] I J P (ys_ask I rwn mb wd why fi) (ys_askJ J rwn v) P := by
  refine nf_enterv (cc := cX4_ask) (maxL := 7) (by decide) rfl (Nat.le_of_ble_eq_true rfl) ?_
  intro p e s m below meth c ls Q hC hM hl hret
  have hx := hC.1.1
  have hb := hC.1.2.1
  have hl : lv_has ls 7 [(0, .ref (ad 20 0)), (1, .int mb), (2, .int wd), (3, .int why), (4, .int fi), (5, .long v)] := hl
  have hinX4 : ∀ w ∈ u_ws RX4 TX4 22, w ∈ wsX4_ask := fun w h => List.mem_cons_of_mem _ (inX4 w h)
  refine lv_aload_n (pc := 0) hx hb dX4_ask_0 rfl (lv_at hl 0 rfl) ?_
  refine lv_iconst (pc := 1) (v := 1) hx hb dX4_ask_1 (by decide) ?_
  refine lv_iload_n (pc := 2) hx hb dX4_ask_2 rfl (lv_at hl 1 rfl) ?_
  refine lv_iload_n (pc := 3) hx hb dX4_ask_3 rfl (lv_at hl 2 rfl) ?_
  refine lv_sipush (pc := 4) (v := 255) hx hb dX4_ask_4 (by decide) ?_
  refine lv_iand (pc := 7) hx hb dX4_ask_7 ?_
  refine lv_iload_n (pc := 8) hx hb dX4_ask_8 rfl (lv_at hl 1 rfl) ?_
  refine nf_callv (pc := 9) (va_runV (As := [.int 1, .int mb, .int (wd &&& 255), .int mb]) (rest := []) hC.1 (ct_X4_post (kd := 1) (tz := mb) (ky := (wd &&& 255)) (ak := mb) (rwn := rwn) hr (by omega)) (cwV 4 hC.1.2.2.2.2 (gd_V wM_X4_79 wi_X4_post wsel_X4_post wini_X4 wcode_X4_post) rfl rfl rfl (by decide +kernel) ⟨by decide, by decide⟩) (nf_preV hC hM rfl rfl) rfl rfl hl.1 rfl (lv_room (Nat.le_of_ble_eq_true rfl)) dX4_ask_9 ⟨Nat.le_refl _, Nat.le_refl _⟩) hM (fun H locs hM => ?_)
  refine lv_aload_n (pc := 12) hx hb dX4_ask_12 rfl (lv_at hl 0 rfl) ?_
  refine nf_getr (pc := 13) hC hinX4 hM rfl rfl 17 (by decide) (List.mem_cons_of_mem _ wF_X4_50) rfl dX4_ask_13 ?_
  refine lv_aload_n (pc := 16) hx hb dX4_ask_16 rfl (lv_at hl 0 rfl) ?_
  refine nf_geti (pc := 17) hC hinX4 hM rfl rfl 13 (by decide) (List.mem_cons_of_mem _ wF_X4_75) rfl dX4_ask_17 ?_
  refine lv_iconst (pc := 20) (v := 1) hx hb dX4_ask_20 (by decide) ?_
  refine lv_isub (pc := 21) hx hb dX4_ask_21 ?_
  refine lv_iload_n (pc := 22) hx hb dX4_ask_22 rfl (lv_at hl 3 rfl) ?_
  refine nf_iast (pc := 23) hC hM 0 rfl rfl rwn (by simp [nf_iu, ys_po_row _ _ _ _ hr, nI_pred]) (by omega) (by decide) dX4_ask_23 (fun H locs hM => ?_)
  refine lv_aload_n (pc := 24) hx hb dX4_ask_24 rfl (lv_at hl 0 rfl) ?_
  refine nf_getr (pc := 25) hC hinX4 hM rfl rfl 18 (by decide) (List.mem_cons_of_mem _ wF_X4_53) rfl dX4_ask_25 ?_
  refine lv_aload_n (pc := 28) hx hb dX4_ask_28 rfl (lv_at hl 0 rfl) ?_
  refine nf_geti (pc := 29) hC hinX4 hM rfl rfl 13 (by decide) (List.mem_cons_of_mem _ wF_X4_75) rfl dX4_ask_29 ?_
  refine lv_iconst (pc := 32) (v := 1) hx hb dX4_ask_32 (by decide) ?_
  refine lv_isub (pc := 33) hx hb dX4_ask_33 ?_
  refine lv_iload (pc := 34) hx hb dX4_ask_34 (lv_at hl 4 rfl) ?_
  refine nf_iast (pc := 36) hC hM 0 rfl rfl rwn (by simp [nf_iu, ys_po_row _ _ _ _ hr, nI_pred]) (by omega) (by decide) dX4_ask_36 (fun H locs hM => ?_)
  refine lv_aload_n (pc := 37) hx hb dX4_ask_37 rfl (lv_at hl 0 rfl) ?_
  refine nf_getr (pc := 38) hC hinX4 hM rfl rfl 21 (by decide) (List.mem_cons_of_mem _ wF_X4_62) rfl dX4_ask_38 ?_
  refine lv_aload_n (pc := 41) hx hb dX4_ask_41 rfl (lv_at hl 0 rfl) ?_
  refine nf_geti (pc := 42) hC hinX4 hM rfl rfl 13 (by decide) (List.mem_cons_of_mem _ wF_X4_75) rfl dX4_ask_42 ?_
  refine lv_iconst (pc := 45) (v := 1) hx hb dX4_ask_45 (by decide) ?_
  refine lv_isub (pc := 46) hx hb dX4_ask_46 ?_
  refine lv_lload (pc := 47) hx hb dX4_ask_47 (lv_at hl 5 rfl) ?_
  refine nf_last (pc := 49) hC hM 1 rfl rfl rwn (by simp [nf_iu, ys_po_row _ _ _ _ hr, nI_pred]) (by omega) (by decide) dX4_ask_49 (fun H locs hM => ?_)
  exact hret _ _ _ _ _ _ _ rfl rfl rfl hM dX4_ask_50
end YR
end
section
/-! The model: entryAt, keep, dropEntry. -/
section YK
variable {l : Launch} {D : va_G} {cs : Nat → ClassId} {Bs nn rwn kp : Nat} {ad : nf_A} {I : nf_I} {J : nf_J} {P : nf_P}
set_option maxHeartbeats 4000000 in
set_option maxRecDepth 100000 in
theorem ct_X4_entryAt {mb wd : Int32} (hkp : I 20 0 7 = nI kp) (hk2 : kp ≤ 120) : nf_Ti l yX4_entryAt wsX4_entryAt 0 0 D vwCl (xT cs) Bs (xS cs nn) ad [.ref (ad 20 0), .int mb, .int wd] I J P (ys_eat I kp mb wd) I J P := by
  refine nf_enteri (cc := cX4_entryAt) (maxL := 5) (by decide) rfl (Nat.le_of_ble_eq_true rfl) ?_
  intro p e s m below meth c ls Q hC hM hl hret
  have hx := hC.1.1
  have hb := hC.1.2.1
  have hl : lv_has ls 5 [(0, .ref (ad 20 0)), (1, .int mb), (2, .int wd)] := hl
  have hinX4 : ∀ w ∈ u_ws RX4 TX4 22, w ∈ wsX4_entryAt := fun w h => List.mem_cons_of_mem _ (inX4 w h)
  refine lv_iconst (pc := 0) (v := -1) hx hb dX4_entryAt_0 (by decide) ?_
  refine lv_istore_n (pc := 1) (lv' := [(3, .int (-1)), (0, .ref (ad 20 0)), (1, .int mb), (2, .int wd)]) hx hb dX4_entryAt_1 rfl hl (by decide) rfl (fun ls hl => ?_)
  refine lv_iconst (pc := 2) (v := 0) hx hb dX4_entryAt_2 (by decide) ?_
  refine lv_istore (pc := 3) (lv' := [(4, .int 0), (3, .int (-1)), (0, .ref (ad 20 0)), (1, .int mb), (2, .int wd)]) hx hb dX4_entryAt_3 hl (by decide) rfl (fun ls hl => ?_)
  have loop5 : ∀ (n : Nat) (j : Nat) (g : Int32) (ls : Array Slot) (H : Heap) (locs : List Loc), kp - j < n → (j ≤ kp) → (ys_eat I kp mb wd = ys_ea I mb wd (kp - j) j g) → nf_M D vwCl Bs (xS cs nn) ad I J P s.heap H locs → lv_has ls 5 [(4, .int (nI j)), (3, .int g), (0, .ref (ad 20 0)), (1, .int mb), (2, .int wd)] → W p l e (nf_Rm 0 0) s m ([.ref (ad 20 0), .int mb, .int wd] : List Value).toArray below meth c H locs 0 0 Q (F0 m 5 ls []) := by
    intro n
    induction n with
    | zero => exact fun _ _ _ _ _ hmz => absurd hmz (Nat.not_lt_zero _)
    | succ n ihloop5 =>
      intro j g ls H locs hmz hjn hf hM hl
      refine lv_iload (pc := 5) hx hb dX4_entryAt_5 (lv_at hl 0 rfl) ?_
      refine lv_aload_n (pc := 7) hx hb dX4_entryAt_7 rfl (lv_at hl 2 rfl) ?_
      refine nf_geti (pc := 8) hC hinX4 hM rfl rfl 7 (by decide) (List.mem_cons_of_mem _ wF_X4_96) rfl dX4_entryAt_8 ?_
      refine lv_icmp_ge (pc := 11) (tgt := 49) hx hb dX4_entryAt_11 (by decide) (fun hh => ?_) (fun hh => ?_)
      · have hj1 : kp ≤ j := (nI_leI (by omega) (by omega)).mp (by rw [hkp] at hh; exact hh)
        refine lv_iload_n (pc := 49) hx hb dX4_entryAt_49 rfl (lv_at hl 1 rfl) ?_
        exact hret _ _ _ _ _ _ _ _ (by rw [hf, show kp - j = 0 by omega]; rfl) rfl rfl rfl hM dX4_entryAt_50
      · have hj1 : j < kp := Nat.lt_of_not_le (fun z => hh (by rw [hkp]; exact (nI_leI (by omega) (by omega)).mpr z))
        refine lv_aload_n (pc := 14) hx hb dX4_entryAt_14 rfl (lv_at hl 2 rfl) ?_
        refine nf_getr (pc := 15) hC hinX4 hM rfl rfl 8 (by decide) (List.mem_cons_of_mem _ wF_X4_29) rfl dX4_entryAt_15 ?_
        refine lv_iload (pc := 18) hx hb dX4_entryAt_18 (lv_at hl 0 rfl) ?_
        refine nf_iald (pc := 20) hC hM 0 rfl rfl j rfl (by omega) (by decide) dX4_entryAt_20 ?_
        refine lv_iload_n (pc := 21) hx hb dX4_entryAt_21 rfl (lv_at hl 3 rfl) ?_
        refine lv_icmp_ne (pc := 22) (tgt := 41) hx hb dX4_entryAt_22 (by decide) (fun h2 => ?_) (fun h2 => ?_)
        · skip
          refine lv_iload_n (pc := 41) hx hb dX4_entryAt_41 rfl (lv_at hl 1 rfl) ?_
          refine lv_istore_n (pc := 42) (lv' := [(3, .int g), (4, .int (nI j)), (0, .ref (ad 20 0)), (1, .int mb), (2, .int wd)]) hx hb dX4_entryAt_42 rfl hl (by decide) rfl (fun ls hl => ?_)
          refine lv_iinc (pc := 43) (k := 1) (v := nI (j + 1)) (lv' := [(4, .int (nI (j + 1))), (3, .int g), (0, .ref (ad 20 0)), (1, .int mb), (2, .int wd)]) hx hb dX4_entryAt_43 hl rfl (nI_1 _) (by decide) rfl (fun ls hl => ?_)
          refine lv_goto (pc := 46) (tgt := 5) hx hb dX4_entryAt_46 (by decide) ?_
          exact ihloop5 (j + 1) g ls _ _ (by omega) (by omega) (by rw [hf, show kp - j = (kp - (j + 1)) + 1 by omega, ys_ea]; congr 1; simp [h2]) hM hl
        · skip
          refine lv_aload_n (pc := 25) hx hb dX4_entryAt_25 rfl (lv_at hl 2 rfl) ?_
          refine nf_getr (pc := 26) hC hinX4 hM rfl rfl 9 (by decide) (List.mem_cons_of_mem _ wF_X4_32) rfl dX4_entryAt_26 ?_
          refine lv_iload (pc := 29) hx hb dX4_entryAt_29 (lv_at hl 0 rfl) ?_
          refine nf_iald (pc := 31) hC hM 0 rfl rfl j rfl (by omega) (by decide) dX4_entryAt_31 ?_
          refine lv_iload_n (pc := 32) hx hb dX4_entryAt_32 rfl (lv_at hl 4 rfl) ?_
          refine lv_icmp_ne (pc := 33) (tgt := 41) hx hb dX4_entryAt_33 (by decide) (fun h3 => ?_) (fun h3 => ?_)
          · skip
            refine lv_iload_n (pc := 41) hx hb dX4_entryAt_41 rfl (lv_at hl 1 rfl) ?_
            refine lv_istore_n (pc := 42) (lv' := [(3, .int g), (4, .int (nI j)), (0, .ref (ad 20 0)), (1, .int mb), (2, .int wd)]) hx hb dX4_entryAt_42 rfl hl (by decide) rfl (fun ls hl => ?_)
            refine lv_iinc (pc := 43) (k := 1) (v := nI (j + 1)) (lv' := [(4, .int (nI (j + 1))), (3, .int g), (0, .ref (ad 20 0)), (1, .int mb), (2, .int wd)]) hx hb dX4_entryAt_43 hl rfl (nI_1 _) (by decide) rfl (fun ls hl => ?_)
            refine lv_goto (pc := 46) (tgt := 5) hx hb dX4_entryAt_46 (by decide) ?_
            exact ihloop5 (j + 1) g ls _ _ (by omega) (by omega) (by rw [hf, show kp - j = (kp - (j + 1)) + 1 by omega, ys_ea]; congr 1; simp [h2, h3]) hM hl
          · skip
            refine lv_iload (pc := 36) hx hb dX4_entryAt_36 (lv_at hl 0 rfl) ?_
            refine lv_goto (pc := 38) (tgt := 42) hx hb dX4_entryAt_38 (by decide) ?_
            refine lv_istore_n (pc := 42) (lv' := [(3, .int (nI j)), (4, .int (nI j)), (0, .ref (ad 20 0)), (1, .int mb), (2, .int wd)]) hx hb dX4_entryAt_42 rfl hl (by decide) rfl (fun ls hl => ?_)
            refine lv_iinc (pc := 43) (k := 1) (v := nI (j + 1)) (lv' := [(4, .int (nI (j + 1))), (3, .int (nI j)), (0, .ref (ad 20 0)), (1, .int mb), (2, .int wd)]) hx hb dX4_entryAt_43 hl rfl (nI_1 _) (by decide) rfl (fun ls hl => ?_)
            refine lv_goto (pc := 46) (tgt := 5) hx hb dX4_entryAt_46 (by decide) ?_
            exact ihloop5 (j + 1) (nI j) ls _ _ (by omega) (by omega) (by rw [hf, show kp - j = (kp - (j + 1)) + 1 by omega, ys_ea]; congr 1; simp [h2, h3]) hM hl
  exact loop5 _ 0 (-1) ls _ _ (Nat.lt_succ_self _) (Nat.zero_le _) rfl hM hl
set_option maxHeartbeats 4000000 in
set_option maxRecDepth 100000 in
theorem ct_X4_keep {mb wd v : Int32} (hkp : I 20 0 7 = nI kp) (hk2 : kp ≤ 120) (hroom : ¬ 0 ≤ ys_eat I kp mb wd → kp < 120) : nf_Tv l yX4_keep wsX4_keep 1 24 D vwCl (xT cs) Bs (xS cs nn) ad [.ref (ad 20 0), .int mb, .int wd, .int v] I J P (ys_kp I kp mb wd v) J P := by
  refine nf_enterv (cc := cX4_keep) (maxL := 5) (by decide) rfl (Nat.le_of_ble_eq_true rfl) ?_
  intro p e s m below meth c ls Q hC hM hl hret
  have hx := hC.1.1
  have hb := hC.1.2.1
  have hl : lv_has ls 5 [(0, .ref (ad 20 0)), (1, .int mb), (2, .int wd), (3, .int v)] := hl
  have hinX4 : ∀ w ∈ u_ws RX4 TX4 22, w ∈ wsX4_keep := fun w h => List.mem_cons_of_mem _ (inX4 w h)
  refine lv_aload_n (pc := 0) hx hb dX4_keep_0 rfl (lv_at hl 0 rfl) ?_
  refine lv_iload_n (pc := 1) hx hb dX4_keep_1 rfl (lv_at hl 1 rfl) ?_
  refine lv_iload_n (pc := 2) hx hb dX4_keep_2 rfl (lv_at hl 2 rfl) ?_
  refine nf_calli (pc := 3) (va_runV (As := [.int mb, .int wd]) (rest := []) hC.1 (ct_X4_entryAt (mb := mb) (wd := wd) (kp := kp) hkp (by omega)) (cwV 2 hC.1.2.2.2.2 (gd_V wM_X4_99 wi_X4_entryAt wsel_X4_entryAt wini_X4 wcode_X4_entryAt) rfl rfl rfl (by decide +kernel) ⟨by decide, by decide⟩) (nf_preV hC hM rfl rfl) rfl rfl hl.1 rfl (lv_room (Nat.le_of_ble_eq_true rfl)) dX4_keep_3 ⟨Nat.le_refl _, Nat.le_refl _⟩) hM (fun H locs hM => ?_)
  refine lv_istore (pc := 6) (lv' := [(4, .int (ys_eat I kp mb wd)), (0, .ref (ad 20 0)), (1, .int mb), (2, .int wd), (3, .int v)]) hx hb dX4_keep_6 hl (by decide) rfl (fun ls hl => ?_)
  refine lv_iload (pc := 8) hx hb dX4_keep_8 (lv_at hl 0 rfl) ?_
  refine lv_if_ge (pc := 10) (tgt := 45) hx hb dX4_keep_10 (by decide) (fun h1 => ?_) (fun h1 => ?_)
  · skip
    obtain ⟨q, hq, hqe, -⟩ := (ys_eat_c I kp mb wd).resolve_left (fun z => by rw [z] at h1; exact absurd h1 (by decide))
    refine lv_aload_n (pc := 45) hx hb dX4_keep_45 rfl (lv_at hl 1 rfl) ?_
    refine nf_getr (pc := 46) hC hinX4 hM rfl rfl 10 (by decide) (List.mem_cons_of_mem _ wF_X4_35) rfl dX4_keep_46 ?_
    refine lv_iload (pc := 49) hx hb dX4_keep_49 (lv_at hl 0 rfl) ?_
    refine lv_iload_n (pc := 51) hx hb dX4_keep_51 rfl (lv_at hl 4 rfl) ?_
    refine nf_iast (pc := 52) hC hM 0 rfl rfl q hqe (by omega) (by decide) dX4_keep_52 (fun H locs hM => ?_)
    exact hret _ _ _ _ _ _ _ (by simp [ys_kp, hqe, nI_clamp (show q < 2 ^ 31 by omega), nI_pos' (show q < 2 ^ 31 by omega), h1] <;> rfl) rfl rfl hM dX4_keep_53
  · skip
    have hkl := hroom h1
    refine lv_aload_n (pc := 13) hx hb dX4_keep_13 rfl (lv_at hl 1 rfl) ?_
    refine nf_geti (pc := 14) hC hinX4 hM rfl rfl 7 (by decide) (List.mem_cons_of_mem _ wF_X4_96) rfl dX4_keep_14 ?_
    refine lv_istore (pc := 17) (lv' := [(4, .int (I 20 0 7)), (0, .ref (ad 20 0)), (1, .int mb), (2, .int wd), (3, .int v)]) hx hb dX4_keep_17 hl (by decide) rfl (fun ls hl => ?_)
    refine lv_aload_n (pc := 19) hx hb dX4_keep_19 rfl (lv_at hl 1 rfl) ?_
    refine lv_dup (pc := 20) hx hb dX4_keep_20 rfl ?_
    refine nf_geti (pc := 21) hC hinX4 hM rfl rfl 7 (by decide) (List.mem_cons_of_mem _ wF_X4_96) rfl dX4_keep_21 ?_
    refine lv_iconst (pc := 24) (v := 1) hx hb dX4_keep_24 (by decide) ?_
    refine lv_iadd (pc := 25) hx hb dX4_keep_25 ?_
    refine nf_puti (pc := 26) hC hinX4 tyX4 tyX4_ok nmX4 hM rfl rfl 7 (by decide) (List.mem_cons_of_mem _ wF_X4_96) rfl (by decide +kernel) rfl dX4_keep_26 (fun H locs hM => ?_)
    refine lv_aload_n (pc := 29) hx hb dX4_keep_29 rfl (lv_at hl 1 rfl) ?_
    refine nf_getr (pc := 30) hC hinX4 hM rfl rfl 8 (by decide) (List.mem_cons_of_mem _ wF_X4_29) rfl dX4_keep_30 ?_
    refine lv_iload (pc := 33) hx hb dX4_keep_33 (lv_at hl 0 rfl) ?_
    refine lv_iload_n (pc := 35) hx hb dX4_keep_35 rfl (lv_at hl 2 rfl) ?_
    refine nf_iast (pc := 36) hC hM 0 rfl rfl kp hkp (by omega) (by decide) dX4_keep_36 (fun H locs hM => ?_)
    refine lv_aload_n (pc := 37) hx hb dX4_keep_37 rfl (lv_at hl 1 rfl) ?_
    refine nf_getr (pc := 38) hC hinX4 hM rfl rfl 9 (by decide) (List.mem_cons_of_mem _ wF_X4_32) rfl dX4_keep_38 ?_
    refine lv_iload (pc := 41) hx hb dX4_keep_41 (lv_at hl 0 rfl) ?_
    refine lv_iload_n (pc := 43) hx hb dX4_keep_43 rfl (lv_at hl 3 rfl) ?_
    refine nf_iast (pc := 44) hC hM 0 rfl rfl kp hkp (by omega) (by decide) dX4_keep_44 (fun H locs hM => ?_)
    refine lv_aload_n (pc := 45) hx hb dX4_keep_45 rfl (lv_at hl 1 rfl) ?_
    refine nf_getr (pc := 46) hC hinX4 hM rfl rfl 10 (by decide) (List.mem_cons_of_mem _ wF_X4_35) rfl dX4_keep_46 ?_
    refine lv_iload (pc := 49) hx hb dX4_keep_49 (lv_at hl 0 rfl) ?_
    refine lv_iload_n (pc := 51) hx hb dX4_keep_51 rfl (lv_at hl 4 rfl) ?_
    refine nf_iast (pc := 52) hC hM 0 rfl rfl kp hkp (by omega) (by decide) dX4_keep_52 (fun H locs hM => ?_)
    exact hret _ _ _ _ _ _ _ (by simp [ys_kp, ys_kp0, h1] <;> rfl) rfl rfl hM dX4_keep_53
set_option maxHeartbeats 4000000 in
set_option maxRecDepth 100000 in
theorem ct_X4_dropEntry {q : Nat} (hkp : I 20 0 7 = nI kp) (hk2 : kp ≤ 120) (hq : q < kp) : nf_Tv l yX4_dropEntry wsX4_dropEntry 0 0 D vwCl (xT cs) Bs (xS cs nn) ad [.ref (ad 20 0), .int (nI q)] I J P (ys_dr I kp q) J P := by
  refine nf_enterv (cc := cX4_dropEntry) (maxL := 3) (by decide) rfl (Nat.le_of_ble_eq_true rfl) ?_
  intro p e s m below meth c ls Q hC hM hl hret
  have hx := hC.1.1
  have hb := hC.1.2.1
  have hl : lv_has ls 3 [(0, .ref (ad 20 0)), (1, .int (nI q))] := hl
  have hinX4 : ∀ w ∈ u_ws RX4 TX4 22, w ∈ wsX4_dropEntry := fun w h => List.mem_cons_of_mem _ (inX4 w h)
  refine lv_aload_n (pc := 0) hx hb dX4_dropEntry_0 rfl (lv_at hl 0 rfl) ?_
  refine lv_dup (pc := 1) hx hb dX4_dropEntry_1 rfl ?_
  refine nf_geti (pc := 2) hC hinX4 hM rfl rfl 7 (by decide) (List.mem_cons_of_mem _ wF_X4_96) rfl dX4_dropEntry_2 ?_
  refine lv_iconst (pc := 5) (v := 1) hx hb dX4_dropEntry_5 (by decide) ?_
  refine lv_isub (pc := 6) hx hb dX4_dropEntry_6 ?_
  refine nf_puti (pc := 7) hC hinX4 tyX4 tyX4_ok nmX4 hM rfl rfl 7 (by decide) (List.mem_cons_of_mem _ wF_X4_96) rfl (by decide +kernel) rfl dX4_dropEntry_7 (fun H locs hM => ?_)
  have hk1 : nf_iu I 20 0 7 (I 20 0 7 - 1) 20 0 7 = nI (kp - 1) := by rw [nf_iu_s, hkp, show kp = (kp - 1) + 1 by omega, nI_pred]; rfl
  have hM : nf_M D vwCl Bs (xS cs nn) ad (ys_sh (nf_iu I 20 0 7 (I 20 0 7 - 1)) q q) J P s.heap H locs := by rw [ys_sh_0]; exact hM
  refine lv_iload_n (pc := 10) hx hb dX4_dropEntry_10 rfl (lv_at hl 1 rfl) ?_
  refine lv_istore_n (pc := 11) (lv' := [(2, .int (nI q)), (0, .ref (ad 20 0)), (1, .int (nI q))]) hx hb dX4_dropEntry_11 rfl hl (by decide) rfl (fun ls hl => ?_)
  have loop12 : ∀ (n : Nat) (j : Nat) (ls : Array Slot) (H : Heap) (locs : List Loc), kp - j < n → (q ≤ j) → (j ≤ kp - 1) → nf_M D vwCl Bs (xS cs nn) ad (ys_sh (nf_iu I 20 0 7 (I 20 0 7 - 1)) q j) J P s.heap H locs → lv_has ls 3 [(2, .int (nI j)), (0, .ref (ad 20 0)), (1, .int (nI q))] → W p l e (nf_Rm 0 0) s m ([.ref (ad 20 0), .int (nI q)] : List Value).toArray below meth c H locs 0 0 Q (F0 m 12 ls []) := by
    intro n
    induction n with
    | zero => exact fun _ _ _ _ hmz => absurd hmz (Nat.not_lt_zero _)
    | succ n ihloop12 =>
      intro j ls H locs hmz hqj hjn hM hl
      refine lv_iload_n (pc := 12) hx hb dX4_dropEntry_12 rfl (lv_at hl 0 rfl) ?_
      refine lv_aload_n (pc := 13) hx hb dX4_dropEntry_13 rfl (lv_at hl 1 rfl) ?_
      refine nf_geti (pc := 14) hC hinX4 hM rfl rfl 7 (by decide) (List.mem_cons_of_mem _ wF_X4_96) rfl dX4_dropEntry_14 ?_
      refine lv_icmp_ge (pc := 17) (tgt := 68) hx hb dX4_dropEntry_17 (by decide) (fun hh => ?_) (fun hh => ?_)
      · have hj1 : kp - 1 ≤ j := (nI_leI (by omega) (by omega)).mp (by rw [(show ys_sh (nf_iu I 20 0 7 (I 20 0 7 - 1)) q j 20 0 7 = nI (kp - 1) by rw [← hk1]; simp [ys_sh])] at hh; exact hh)
        exact hret _ _ _ _ _ _ _ (by rw [ys_dr, show j = kp - 1 by omega]) rfl rfl hM dX4_dropEntry_68
      · have hj1 : j < kp - 1 := Nat.lt_of_not_le (fun z => hh (by rw [(show ys_sh (nf_iu I 20 0 7 (I 20 0 7 - 1)) q j 20 0 7 = nI (kp - 1) by rw [← hk1]; simp [ys_sh])]; exact (nI_leI (by omega) (by omega)).mpr z))
        refine lv_aload_n (pc := 20) hx hb dX4_dropEntry_20 rfl (lv_at hl 1 rfl) ?_
        refine nf_getr (pc := 21) hC hinX4 hM rfl rfl 8 (by decide) (List.mem_cons_of_mem _ wF_X4_29) rfl dX4_dropEntry_21 ?_
        refine lv_iload_n (pc := 24) hx hb dX4_dropEntry_24 rfl (lv_at hl 0 rfl) ?_
        refine lv_aload_n (pc := 25) hx hb dX4_dropEntry_25 rfl (lv_at hl 1 rfl) ?_
        refine nf_getr (pc := 26) hC hinX4 hM rfl rfl 8 (by decide) (List.mem_cons_of_mem _ wF_X4_29) rfl dX4_dropEntry_26 ?_
        refine lv_iload_n (pc := 29) hx hb dX4_dropEntry_29 rfl (lv_at hl 0 rfl) ?_
        refine lv_iconst (pc := 30) (v := 1) hx hb dX4_dropEntry_30 (by decide) ?_
        refine lv_iadd (pc := 31) hx hb dX4_dropEntry_31 ?_
        refine nf_iald (pc := 32) hC hM 0 rfl rfl ((j + 1)) (nI_1 _) (by omega) (by decide) dX4_dropEntry_32 ?_
        refine nf_iast (pc := 33) hC hM 0 rfl rfl j rfl (by omega) (by decide) dX4_dropEntry_33 (fun H locs hM => ?_)
        refine lv_aload_n (pc := 34) hx hb dX4_dropEntry_34 rfl (lv_at hl 1 rfl) ?_
        refine nf_getr (pc := 35) hC hinX4 hM rfl rfl 9 (by decide) (List.mem_cons_of_mem _ wF_X4_32) rfl dX4_dropEntry_35 ?_
        refine lv_iload_n (pc := 38) hx hb dX4_dropEntry_38 rfl (lv_at hl 0 rfl) ?_
        refine lv_aload_n (pc := 39) hx hb dX4_dropEntry_39 rfl (lv_at hl 1 rfl) ?_
        refine nf_getr (pc := 40) hC hinX4 hM rfl rfl 9 (by decide) (List.mem_cons_of_mem _ wF_X4_32) rfl dX4_dropEntry_40 ?_
        refine lv_iload_n (pc := 43) hx hb dX4_dropEntry_43 rfl (lv_at hl 0 rfl) ?_
        refine lv_iconst (pc := 44) (v := 1) hx hb dX4_dropEntry_44 (by decide) ?_
        refine lv_iadd (pc := 45) hx hb dX4_dropEntry_45 ?_
        refine nf_iald (pc := 46) hC hM 0 rfl rfl ((j + 1)) (nI_1 _) (by omega) (by decide) dX4_dropEntry_46 ?_
        refine nf_iast (pc := 47) hC hM 0 rfl rfl j rfl (by omega) (by decide) dX4_dropEntry_47 (fun H locs hM => ?_)
        refine lv_aload_n (pc := 48) hx hb dX4_dropEntry_48 rfl (lv_at hl 1 rfl) ?_
        refine nf_getr (pc := 49) hC hinX4 hM rfl rfl 10 (by decide) (List.mem_cons_of_mem _ wF_X4_35) rfl dX4_dropEntry_49 ?_
        refine lv_iload_n (pc := 52) hx hb dX4_dropEntry_52 rfl (lv_at hl 0 rfl) ?_
        refine lv_aload_n (pc := 53) hx hb dX4_dropEntry_53 rfl (lv_at hl 1 rfl) ?_
        refine nf_getr (pc := 54) hC hinX4 hM rfl rfl 10 (by decide) (List.mem_cons_of_mem _ wF_X4_35) rfl dX4_dropEntry_54 ?_
        refine lv_iload_n (pc := 57) hx hb dX4_dropEntry_57 rfl (lv_at hl 0 rfl) ?_
        refine lv_iconst (pc := 58) (v := 1) hx hb dX4_dropEntry_58 (by decide) ?_
        refine lv_iadd (pc := 59) hx hb dX4_dropEntry_59 ?_
        refine nf_iald (pc := 60) hC hM 0 rfl rfl ((j + 1)) (nI_1 _) (by omega) (by decide) dX4_dropEntry_60 ?_
        refine nf_iast (pc := 61) hC hM 0 rfl rfl j rfl (by omega) (by decide) dX4_dropEntry_61 (fun H locs hM => ?_)
        have hM : nf_M D vwCl Bs (xS cs nn) ad (ys_sh (nf_iu I 20 0 7 (I 20 0 7 - 1)) q (j + 1)) J P s.heap H locs := by rw [← ys_sh_s _ hqj]; exact hM
        refine lv_iinc (pc := 62) (k := 0) (v := nI (j + 1)) (lv' := [(2, .int (nI (j + 1))), (0, .ref (ad 20 0)), (1, .int (nI q))]) hx hb dX4_dropEntry_62 hl rfl (nI_1 _) (by decide) rfl (fun ls hl => ?_)
        refine lv_goto (pc := 65) (tgt := 12) hx hb dX4_dropEntry_65 (by decide) ?_
        exact ihloop12 (j + 1) ls _ _ (by omega) (by omega) (by omega) hM hl
  exact loop12 _ q ls _ _ (Nat.lt_succ_self _) (Nat.le_refl _) (by omega) hM hl
end YK
end
section
/-! The model's calls, as functions. -/
theorem nk_ix2 {x : Int32} {n : Nat} (h0 : ¬ x < 0) (h : x < nI n) (hn : n < 2 ^ 31) : ∃ j : Nat, j < n ∧ x = nI j := by
  refine nk_ix h0 (fun z => ?_) hn
  have a := Int32.lt_iff_toInt_lt.mp h
  have b := Int32.le_iff_toInt_le.mp z
  omega
theorem nk_ix7 {x : Int32} (h0 : ¬ x < 0) (h : ¬ 7 < x) : ∃ j : Nat, j < 8 ∧ x = nI j := by
  refine nk_ix (n := 8) h0 (fun z => h ?_) (by decide)
  have b := Int32.le_iff_toInt_le.mp z
  have e : (nI 8).toInt = 8 := by decide +kernel
  have e7 : (7 : Int32).toInt = 7 := by decide +kernel
  refine Int32.lt_iff_toInt_lt.mpr ?_
  omega
theorem ys_mem_ix {I : nf_I} {x : Int32} (h : ys_mem I x = true) : ∃ n, n < 256 ∧ x = nI n := by
  unfold ys_mem at h
  split at h
  · cases h
  next h1 => exact ys_isId_ix (by cases hb : ys_isId x with
      | true => rfl
      | false => exact absurd hb h1)
theorem nk_8 {x y : Int32} {a b : Nat} (hx : x = nI a) (hy : y = nI b) : 8 * x + y = nI (8 * a + b) := by
  rw [hx, hy, show (8 : Int32) = nI 8 from rfl, pk_mul, nI_add]
def ys_msg (I : nf_I) (k : Int32) : Int32 := if k < 0 then -1 else if k < I 20 0 13 then I 31 0 k.toNatClampNeg * 256 + I 32 0 k.toNatClampNeg else -1
def ys_rd (I : nf_I) (a : Nat) (id : Int32) : Int32 := if ys_mem I id = false then -1 else I a 0 id.toNatClampNeg
def ys_fgr (I : nf_I) (id j : Int32) : Int32 := if ys_mem I id = false then -1 else if j < 0 then -1 else if 7 < j then -1 else I 24 0 (8 * id.toNatClampNeg + j.toNatClampNeg)
def ys_ety (I : nf_I) (kp : Nat) (id wd : Int32) : Int64 := if ys_mem I id = false then 4294967296 else if 0 ≤ ys_eat I kp id wd then (I 29 0 (ys_eat I kp id wd).toNatClampNeg).toInt64 else 4294967296
def ys_en (I : nf_I) (id : Int32) : Nat → Nat → Int32 → Int32
  | 0, _, k => k
  | n + 1, j, k => ys_en I id n (j + 1) (if I 27 0 j = id then k + 1 else k)
def ys_ens (I : nf_I) (kp : Nat) (id : Int32) : Int32 := if ys_mem I id = false then -1 else ys_en I id kp 0 0
def ys_ans (J : nf_J) (id : Int32) : Int64 := if ys_isId id = false then 8589934592 else J 25 0 id.toNatClampNeg
def ys_hps (I : nf_I) (id : Int32) : Int32 := if ys_isId id = false then -1 else if I 21 0 id.toNatClampNeg ≤ 0 then -1 else I 26 0 id.toNatClampNeg
def ys_own (I : nf_I) (wd : Int32) : Int32 := if ys_isId wd = false then -1 else ys_first I wd 1
def ys_w1 (I : nf_I) (d : Nat) (k : Int32) : Int32 := if I 22 0 d = ys_first I (nI d + 1) 1 then k else k + 1
def ys_w2 (I : nf_I) (d : Nat) (k : Int32) : Int32 := if I 23 0 d = ys_first I (nI d + 255) (-1) then k else k + 1
def ys_wf (I : nf_I) (d : Nat) : Nat → Nat → Int32 → Int32
  | 0, _, k => k
  | n + 1, j, k => ys_wf I d n (j + 1) (if I 24 0 (8 * d + j) = ys_first I (nI d + (1 <<< (nI j &&& 31))) 1 then k else k + 1)
def ys_wr (I : nf_I) : Nat → Nat → Int32 → Int32
  | 0, _, k => k
  | n + 1, d, k => ys_wr I n (d + 1) (if I 21 0 d = 2 then ys_wf I d 8 0 (ys_w2 I d (ys_w1 I d k)) else k)
def ys_mp (I : nf_I) : Nat → Nat → Int32 → Int32
  | 0, _, k => k
  | n + 1, j, k => ys_mp I n (j + 1) (if ys_first I (I 28 0 j) 1 = I 27 0 j then k else k + 1)
def ys_crB (I : nf_I) (id : Int32) : Bool := if ys_isId id = false then false else if I 20 0 0 ≤ 0 then true else false
def ys_crI (I : nf_I) (id : Int32) : nf_I := if ys_isId id = false then I else if I 20 0 0 ≤ 0 then nf_iu (nf_iu (nf_iu I 20 0 0 1) 21 0 id.toNatClampNeg 2) 22 0 id.toNatClampNeg id else I
def ys_jnB (I : nf_I) (id via : Int32) : Bool := if ys_isId id = false then false else if I 21 0 id.toNatClampNeg = 0 then (if ys_mem I via = false then false else if 12 ≤ I 20 0 0 then false else if I 20 0 13 < 20 then true else false) else false
def ys_jn0 (I : nf_I) (id : Int32) : nf_I := nf_iu (nf_iu I 20 0 0 (I 20 0 0 + 1)) 21 0 id.toNatClampNeg 1
def ys_jnI (I : nf_I) (rwn : Nat) (id via : Int32) : nf_I := if ys_jnB I id via = false then I else nf_iu (ys_ask (ys_jn0 I id) rwn via id 0 0) 36 0 rwn id
def ys_jnJ (I : nf_I) (J : nf_J) (rwn : Nat) (id via : Int32) : nf_J := if ys_jnB I id via = false then J else ys_askJ J rwn 0
def ys_full (I : nf_I) : Bool := if I 20 0 13 < 20 then false else true
def ys_stB (I : nf_I) (id : Int32) : Bool := if ys_mem I id = false then false else if I 20 0 13 < 20 then true else false
def ys_stI (I : nf_I) (rwn : Nat) (id : Int32) : nf_I := if ys_stB I id = false then I else ys_po I rwn 6 (I 22 0 id.toNatClampNeg) 0 id
def ys_stJ (I : nf_I) (J : nf_J) (rwn : Nat) (id : Int32) : nf_J := if ys_stB I id = false then J else ys_poJ J rwn
def ys_fxB (I : nf_I) (id j : Int32) : Bool := if ys_mem I id = false then false else if j < 0 then false else if 7 < j then false else if I 20 0 13 < 20 then true else false
def ys_fxI (I : nf_I) (rwn : Nat) (id j : Int32) : nf_I := if ys_fxB I id j = false then I else ys_ask I rwn id (id + (1 <<< (j &&& 31))) 1 j
def ys_fxJ (I : nf_I) (J : nf_J) (rwn : Nat) (id j : Int32) : nf_J := if ys_fxB I id j = false then J else ys_askJ J rwn 0
def ys_gtB (I : nf_I) (id wd : Int32) : Bool := if ys_mem I id = false then false else if ys_isId wd = false then false else if I 20 0 13 < 20 then true else false
def ys_gtI (I : nf_I) (rwn : Nat) (id wd : Int32) : nf_I := if ys_gtB I id wd = false then I else ys_ask I rwn id wd 3 0
def ys_gtJ (I : nf_I) (J : nf_J) (rwn : Nat) (id wd : Int32) : nf_J := if ys_gtB I id wd = false then J else ys_askJ J rwn 0
def ys_old (I : nf_I) (wd : Int32) : Nat → Nat → Int32 → Int32
  | 0, _, o => o
  | n + 1, j, o => ys_old I wd n (j + 1) (if o = 0 then (if I 30 0 j = wd then 1 else 0) else 1)
def ys_ptB (I : nf_I) (kc : Nat) (id wd : Int32) : Bool := if ys_gtB I id wd = false then false else if ys_old I wd kc 0 0 = 0 then (if I 20 0 11 < 10 then true else false) else true
def ys_pt0 (I : nf_I) (kc : Nat) (wd : Int32) : nf_I := nf_iu (nf_iu I 30 0 kc wd) 20 0 11 (nf_iu I 30 0 kc wd 20 0 11 + 1)
def ys_ptI (I : nf_I) (kc rwn : Nat) (id wd : Int32) : nf_I := if ys_ptB I kc id wd = false then I else if ys_old I wd kc 0 0 = 0 then ys_ask (ys_pt0 I kc wd) rwn id wd 2 0 else ys_ask I rwn id wd 2 0
def ys_ptJ (I : nf_I) (J : nf_J) (kc rwn : Nat) (id wd v : Int32) : nf_J := if ys_ptB I kc id wd = false then J else ys_askJ J rwn v.toInt64
end
section
/-! The model: calls that only read. -/
section YA
variable {l : Launch} {D : va_G} {cs : Nat → ClassId} {Bs nn rwn kp : Nat} {ad : nf_A} {I : nf_I} {J : nf_J} {P : nf_P}
set_option maxHeartbeats 4000000 in
set_option maxRecDepth 100000 in
theorem ct_X4_flying   : nf_Ti l yX4_flying wsX4_flying 0 0 D vwCl (xT cs) Bs (xS cs nn) ad [.ref (ad 20 0)] I J P (I 20 0 13) I J P := by
  refine nf_enteri (cc := cX4_flying) (maxL := 1) (by decide) rfl (Nat.le_of_ble_eq_true rfl) ?_
  intro p e s m below meth c ls Q hC hM hl hret
  have hx := hC.1.1
  have hb := hC.1.2.1
  have hl : lv_has ls 1 [(0, .ref (ad 20 0))] := hl
  have hinX4 : ∀ w ∈ u_ws RX4 TX4 22, w ∈ wsX4_flying := fun w h => List.mem_cons_of_mem _ (inX4 w h)
  refine lv_aload_n (pc := 0) hx hb dX4_flying_0 rfl (lv_at hl 0 rfl) ?_
  refine nf_geti (pc := 1) hC hinX4 hM rfl rfl 13 (by decide) (List.mem_cons_of_mem _ wF_X4_75) rfl dX4_flying_1 ?_
  exact hret _ _ _ _ _ _ _ _ rfl rfl rfl rfl hM dX4_flying_4
set_option maxHeartbeats 4000000 in
set_option maxRecDepth 100000 in
theorem ct_X4_message {k : Int32} (hr : I 20 0 13 = nI rwn) (hrw : rwn ≤ 20) : nf_Ti l yX4_message wsX4_message 0 0 D vwCl (xT cs) Bs (xS cs nn) ad [.ref (ad 20 0), .int k] I J P (ys_msg I k) I J P := by
  refine nf_enteri (cc := cX4_message) (maxL := 2) (by decide) rfl (Nat.le_of_ble_eq_true rfl) ?_
  intro p e s m below meth c ls Q hC hM hl hret
  have hx := hC.1.1
  have hb := hC.1.2.1
  have hl : lv_has ls 2 [(0, .ref (ad 20 0)), (1, .int k)] := hl
  have hinX4 : ∀ w ∈ u_ws RX4 TX4 22, w ∈ wsX4_message := fun w h => List.mem_cons_of_mem _ (inX4 w h)
  refine lv_iload_n (pc := 0) hx hb dX4_message_0 rfl (lv_at hl 1 rfl) ?_
  refine lv_if_lt (pc := 1) (tgt := 12) hx hb dX4_message_1 (by decide) (fun h1 => ?_) (fun h1 => ?_)
  · skip
    refine lv_iconst (pc := 12) (v := -1) hx hb dX4_message_12 (by decide) ?_
    refine lv_goto (pc := 13) (tgt := 33) hx hb dX4_message_13 (by decide) ?_
    exact hret _ _ _ _ _ _ _ _ (by simp [ys_msg, h1]) rfl rfl rfl hM dX4_message_33
  · skip
    refine lv_iload_n (pc := 4) hx hb dX4_message_4 rfl (lv_at hl 1 rfl) ?_
    refine lv_aload_n (pc := 5) hx hb dX4_message_5 rfl (lv_at hl 0 rfl) ?_
    refine nf_geti (pc := 6) hC hinX4 hM rfl rfl 13 (by decide) (List.mem_cons_of_mem _ wF_X4_75) rfl dX4_message_6 ?_
    refine lv_icmp_lt (pc := 9) (tgt := 16) hx hb dX4_message_9 (by decide) (fun h2 => ?_) (fun h2 => ?_)
    · skip
      obtain ⟨kn, hkn, hkne⟩ := nk_ix2 h1 (by rw [← hr]; exact h2) (by omega)
      refine lv_aload_n (pc := 16) hx hb dX4_message_16 rfl (lv_at hl 0 rfl) ?_
      refine nf_getr (pc := 17) hC hinX4 hM rfl rfl 14 (by decide) (List.mem_cons_of_mem _ wF_X4_41) rfl dX4_message_17 ?_
      refine lv_iload_n (pc := 20) hx hb dX4_message_20 rfl (lv_at hl 1 rfl) ?_
      refine nf_iald (pc := 21) hC hM 0 rfl rfl kn hkne (by omega) (by decide) dX4_message_21 ?_
      refine lv_sipush (pc := 22) (v := 256) hx hb dX4_message_22 (by decide) ?_
      refine lv_imul (pc := 25) hx hb dX4_message_25 ?_
      refine lv_aload_n (pc := 26) hx hb dX4_message_26 rfl (lv_at hl 0 rfl) ?_
      refine nf_getr (pc := 27) hC hinX4 hM rfl rfl 15 (by decide) (List.mem_cons_of_mem _ wF_X4_44) rfl dX4_message_27 ?_
      refine lv_iload_n (pc := 30) hx hb dX4_message_30 rfl (lv_at hl 1 rfl) ?_
      refine nf_iald (pc := 31) hC hM 0 rfl rfl kn hkne (by omega) (by decide) dX4_message_31 ?_
      refine lv_iadd (pc := 32) hx hb dX4_message_32 ?_
      exact hret _ _ _ _ _ _ _ _ (by rw [ys_msg, if_neg h1, if_pos h2, hkne, nI_clamp (by omega)]) rfl rfl rfl hM dX4_message_33
    · skip
      refine lv_iconst (pc := 12) (v := -1) hx hb dX4_message_12 (by decide) ?_
      refine lv_goto (pc := 13) (tgt := 33) hx hb dX4_message_13 (by decide) ?_
      exact hret _ _ _ _ _ _ _ _ (by simp [ys_msg, h1, h2]) rfl rfl rfl hM dX4_message_33
set_option maxHeartbeats 4000000 in
set_option maxRecDepth 100000 in
theorem ct_X4_successor {id : Int32}  : nf_Ti l yX4_successor wsX4_successor 2 41 D vwCl (xT cs) Bs (xS cs nn) ad [.ref (ad 20 0), .int id] I J P (ys_rd I 22 id) I J P := by
  refine nf_enteri (cc := cX4_successor) (maxL := 2) (by decide) rfl (Nat.le_of_ble_eq_true rfl) ?_
  intro p e s m below meth c ls Q hC hM hl hret
  have hx := hC.1.1
  have hb := hC.1.2.1
  have hl : lv_has ls 2 [(0, .ref (ad 20 0)), (1, .int id)] := hl
  have hinX4 : ∀ w ∈ u_ws RX4 TX4 22, w ∈ wsX4_successor := fun w h => List.mem_cons_of_mem _ (inX4 w h)
  refine lv_aload_n (pc := 0) hx hb dX4_successor_0 rfl (lv_at hl 0 rfl) ?_
  refine lv_iload_n (pc := 1) hx hb dX4_successor_1 rfl (lv_at hl 1 rfl) ?_
  refine nf_calli (pc := 2) (va_runV (As := [.int id]) (rest := []) hC.1 (ct_X4_isMember (x := id)) (cwV 1 hC.1.2.2.2.2 (gd_V wM_X4_86 wi_X4_isMember wsel_X4_isMember wini_X4 wcode_X4_isMember) rfl rfl rfl (by decide +kernel) ⟨by decide, by decide⟩) (nf_preV hC hM rfl rfl) rfl rfl hl.1 rfl (lv_room (Nat.le_of_ble_eq_true rfl)) dX4_successor_2 ⟨Nat.le_refl _, Nat.le_refl _⟩) hM (fun H locs hM => ?_)
  refine lv_if_eq (pc := 5) (tgt := 17) hx hb dX4_successor_5 (by decide) (fun h1 => ?_) (fun h1 => ?_)
  · have h1 := nb_0 h1
    refine lv_iconst (pc := 17) (v := -1) hx hb dX4_successor_17 (by decide) ?_
    exact hret _ _ _ _ _ _ _ _ (by simp [ys_rd, h1]) rfl rfl rfl hM dX4_successor_18
  · have h1 := nb_1 h1
    obtain ⟨xn, hxn, hxne⟩ := ys_mem_ix h1
    refine lv_aload_n (pc := 8) hx hb dX4_successor_8 rfl (lv_at hl 0 rfl) ?_
    refine nf_getr (pc := 9) hC hinX4 hM rfl rfl 2 (by decide) (List.mem_cons_of_mem _ wF_X4_13) rfl dX4_successor_9 ?_
    refine lv_iload_n (pc := 12) hx hb dX4_successor_12 rfl (lv_at hl 1 rfl) ?_
    refine nf_iald (pc := 13) hC hM 0 rfl rfl xn hxne (by omega) (by decide) dX4_successor_13 ?_
    refine lv_goto (pc := 14) (tgt := 18) hx hb dX4_successor_14 (by decide) ?_
    exact hret _ _ _ _ _ _ _ _ (by rw [ys_rd, if_neg (by rw [h1]; decide), hxne, nI_clamp (by omega)]) rfl rfl rfl hM dX4_successor_18
set_option maxHeartbeats 4000000 in
set_option maxRecDepth 100000 in
theorem ct_X4_predecessor {id : Int32}  : nf_Ti l yX4_predecessor wsX4_predecessor 2 41 D vwCl (xT cs) Bs (xS cs nn) ad [.ref (ad 20 0), .int id] I J P (ys_rd I 23 id) I J P := by
  refine nf_enteri (cc := cX4_predecessor) (maxL := 2) (by decide) rfl (Nat.le_of_ble_eq_true rfl) ?_
  intro p e s m below meth c ls Q hC hM hl hret
  have hx := hC.1.1
  have hb := hC.1.2.1
  have hl : lv_has ls 2 [(0, .ref (ad 20 0)), (1, .int id)] := hl
  have hinX4 : ∀ w ∈ u_ws RX4 TX4 22, w ∈ wsX4_predecessor := fun w h => List.mem_cons_of_mem _ (inX4 w h)
  refine lv_aload_n (pc := 0) hx hb dX4_predecessor_0 rfl (lv_at hl 0 rfl) ?_
  refine lv_iload_n (pc := 1) hx hb dX4_predecessor_1 rfl (lv_at hl 1 rfl) ?_
  refine nf_calli (pc := 2) (va_runV (As := [.int id]) (rest := []) hC.1 (ct_X4_isMember (x := id)) (cwV 1 hC.1.2.2.2.2 (gd_V wM_X4_86 wi_X4_isMember wsel_X4_isMember wini_X4 wcode_X4_isMember) rfl rfl rfl (by decide +kernel) ⟨by decide, by decide⟩) (nf_preV hC hM rfl rfl) rfl rfl hl.1 rfl (lv_room (Nat.le_of_ble_eq_true rfl)) dX4_predecessor_2 ⟨Nat.le_refl _, Nat.le_refl _⟩) hM (fun H locs hM => ?_)
  refine lv_if_eq (pc := 5) (tgt := 17) hx hb dX4_predecessor_5 (by decide) (fun h1 => ?_) (fun h1 => ?_)
  · have h1 := nb_0 h1
    refine lv_iconst (pc := 17) (v := -1) hx hb dX4_predecessor_17 (by decide) ?_
    exact hret _ _ _ _ _ _ _ _ (by simp [ys_rd, h1]) rfl rfl rfl hM dX4_predecessor_18
  · have h1 := nb_1 h1
    obtain ⟨xn, hxn, hxne⟩ := ys_mem_ix h1
    refine lv_aload_n (pc := 8) hx hb dX4_predecessor_8 rfl (lv_at hl 0 rfl) ?_
    refine nf_getr (pc := 9) hC hinX4 hM rfl rfl 3 (by decide) (List.mem_cons_of_mem _ wF_X4_16) rfl dX4_predecessor_9 ?_
    refine lv_iload_n (pc := 12) hx hb dX4_predecessor_12 rfl (lv_at hl 1 rfl) ?_
    refine nf_iald (pc := 13) hC hM 0 rfl rfl xn hxne (by omega) (by decide) dX4_predecessor_13 ?_
    refine lv_goto (pc := 14) (tgt := 18) hx hb dX4_predecessor_14 (by decide) ?_
    exact hret _ _ _ _ _ _ _ _ (by rw [ys_rd, if_neg (by rw [h1]; decide), hxne, nI_clamp (by omega)]) rfl rfl rfl hM dX4_predecessor_18
set_option maxHeartbeats 4000000 in
set_option maxRecDepth 100000 in
theorem ct_X4_finger {id j : Int32}  : nf_Ti l yX4_finger wsX4_finger 2 41 D vwCl (xT cs) Bs (xS cs nn) ad [.ref (ad 20 0), .int id, .int j] I J P (ys_fgr I id j) I J P := by
  refine nf_enteri (cc := cX4_finger) (maxL := 3) (by decide) rfl (Nat.le_of_ble_eq_true rfl) ?_
  intro p e s m below meth c ls Q hC hM hl hret
  have hx := hC.1.1
  have hb := hC.1.2.1
  have hl : lv_has ls 3 [(0, .ref (ad 20 0)), (1, .int id), (2, .int j)] := hl
  have hinX4 : ∀ w ∈ u_ws RX4 TX4 22, w ∈ wsX4_finger := fun w h => List.mem_cons_of_mem _ (inX4 w h)
  refine lv_aload_n (pc := 0) hx hb dX4_finger_0 rfl (lv_at hl 0 rfl) ?_
  refine lv_iload_n (pc := 1) hx hb dX4_finger_1 rfl (lv_at hl 1 rfl) ?_
  refine nf_calli (pc := 2) (va_runV (As := [.int id]) (rest := []) hC.1 (ct_X4_isMember (x := id)) (cwV 1 hC.1.2.2.2.2 (gd_V wM_X4_86 wi_X4_isMember wsel_X4_isMember wini_X4 wcode_X4_isMember) rfl rfl rfl (by decide +kernel) ⟨by decide, by decide⟩) (nf_preV hC hM rfl rfl) rfl rfl hl.1 rfl (lv_room (Nat.le_of_ble_eq_true rfl)) dX4_finger_2 ⟨Nat.le_refl _, Nat.le_refl _⟩) hM (fun H locs hM => ?_)
  refine lv_if_eq (pc := 5) (tgt := 32) hx hb dX4_finger_5 (by decide) (fun h1 => ?_) (fun h1 => ?_)
  · have h1 := nb_0 h1
    refine lv_iconst (pc := 32) (v := -1) hx hb dX4_finger_32 (by decide) ?_
    exact hret _ _ _ _ _ _ _ _ (by simp [ys_fgr, h1]) rfl rfl rfl hM dX4_finger_33
  · have h1 := nb_1 h1
    refine lv_iload_n (pc := 8) hx hb dX4_finger_8 rfl (lv_at hl 2 rfl) ?_
    refine lv_if_lt (pc := 9) (tgt := 32) hx hb dX4_finger_9 (by decide) (fun h2 => ?_) (fun h2 => ?_)
    · skip
      refine lv_iconst (pc := 32) (v := -1) hx hb dX4_finger_32 (by decide) ?_
      exact hret _ _ _ _ _ _ _ _ (by simp [ys_fgr, h1, h2]) rfl rfl rfl hM dX4_finger_33
    · skip
      refine lv_iload_n (pc := 12) hx hb dX4_finger_12 rfl (lv_at hl 2 rfl) ?_
      refine lv_bipush (pc := 13) (v := 7) hx hb dX4_finger_13 (by decide) ?_
      refine lv_icmp_gt (pc := 15) (tgt := 32) hx hb dX4_finger_15 (by decide) (fun h3 => ?_) (fun h3 => ?_)
      · skip
        refine lv_iconst (pc := 32) (v := -1) hx hb dX4_finger_32 (by decide) ?_
        exact hret _ _ _ _ _ _ _ _ (by simp [ys_fgr, h1, h2, h3]) rfl rfl rfl hM dX4_finger_33
      · skip
        obtain ⟨xn, hxn, hxne⟩ := ys_mem_ix h1
        obtain ⟨jn, hjn, hjne⟩ := nk_ix7 h2 h3
        refine lv_aload_n (pc := 18) hx hb dX4_finger_18 rfl (lv_at hl 0 rfl) ?_
        refine nf_getr (pc := 19) hC hinX4 hM rfl rfl 4 (by decide) (List.mem_cons_of_mem _ wF_X4_19) rfl dX4_finger_19 ?_
        refine lv_bipush (pc := 22) (v := 8) hx hb dX4_finger_22 (by decide) ?_
        refine lv_iload_n (pc := 24) hx hb dX4_finger_24 rfl (lv_at hl 1 rfl) ?_
        refine lv_imul (pc := 25) hx hb dX4_finger_25 ?_
        refine lv_iload_n (pc := 26) hx hb dX4_finger_26 rfl (lv_at hl 2 rfl) ?_
        refine lv_iadd (pc := 27) hx hb dX4_finger_27 ?_
        refine nf_iald (pc := 28) hC hM 0 rfl rfl (8 * xn + jn) (nk_8 hxne hjne) (by omega) (by decide) dX4_finger_28 ?_
        refine lv_goto (pc := 29) (tgt := 33) hx hb dX4_finger_29 (by decide) ?_
        exact hret _ _ _ _ _ _ _ _ (by rw [ys_fgr, if_neg (by rw [h1]; decide), if_neg h2, if_neg h3, hxne, hjne, nI_clamp (by omega), nI_clamp (by omega)]) rfl rfl rfl hM dX4_finger_33
set_option maxHeartbeats 4000000 in
set_option maxRecDepth 100000 in
theorem ct_X4_entry {id wd : Int32} (hkp : I 20 0 7 = nI kp) (hk2 : kp ≤ 120) : nf_Tl l yX4_entry wsX4_entry 2 41 D vwCl (xT cs) Bs (xS cs nn) ad [.ref (ad 20 0), .int id, .int wd] I J P (ys_ety I kp id wd) I J P := by
  refine nf_enterl (cc := cX4_entry) (maxL := 4) (by decide) rfl (Nat.le_of_ble_eq_true rfl) ?_
  intro p e s m below meth c ls Q hC hM hl hret
  have hx := hC.1.1
  have hb := hC.1.2.1
  have hl : lv_has ls 4 [(0, .ref (ad 20 0)), (1, .int id), (2, .int wd)] := hl
  have hinX4 : ∀ w ∈ u_ws RX4 TX4 22, w ∈ wsX4_entry := fun w h => List.mem_cons_of_mem _ (inX4 w h)
  refine lv_aload_n (pc := 0) hx hb dX4_entry_0 rfl (lv_at hl 0 rfl) ?_
  refine lv_iload_n (pc := 1) hx hb dX4_entry_1 rfl (lv_at hl 1 rfl) ?_
  refine nf_calli (pc := 2) (va_runV (As := [.int id]) (rest := []) hC.1 (ct_X4_isMember (x := id)) (cwV 1 hC.1.2.2.2.2 (gd_V wM_X4_86 wi_X4_isMember wsel_X4_isMember wini_X4 wcode_X4_isMember) rfl rfl rfl (by decide +kernel) ⟨by decide, by decide⟩) (nf_preV hC hM rfl rfl) rfl rfl hl.1 rfl (lv_room (Nat.le_of_ble_eq_true rfl)) dX4_entry_2 ⟨Nat.le_refl _, Nat.le_refl _⟩) hM (fun H locs hM => ?_)
  refine lv_if_eq (pc := 5) (tgt := 17) hx hb dX4_entry_5 (by decide) (fun h1 => ?_) (fun h1 => ?_)
  · have h1 := nb_0 h1
    refine lv_iconst (pc := 17) (v := -1) hx hb dX4_entry_17 (by decide) ?_
    refine lv_istore_n (pc := 18) (lv' := [(3, .int (-1)), (0, .ref (ad 20 0)), (1, .int id), (2, .int wd)]) hx hb dX4_entry_18 rfl hl (by decide) rfl (fun ls hl => ?_)
    refine lv_iload_n (pc := 19) hx hb dX4_entry_19 rfl (lv_at hl 0 rfl) ?_
    refine lv_if_ge (pc := 20) (tgt := 29) hx hb dX4_entry_20 (by decide) (fun hh => absurd hh (by decide)) (fun _ => ?_)
    refine lv_ldc2 (pc := 23) (v := 4294967296) hx hb hC.1.2.2.2.1 (hC.1.2.2.2.2 _ (List.mem_cons_of_mem _ wC_X4_133)) dX4_entry_23 ?_
    refine lv_goto (pc := 26) (tgt := 36) hx hb dX4_entry_26 (by decide) ?_
    exact hret _ _ _ _ _ _ _ _ (by simp [ys_ety, h1]) rfl rfl rfl hM dX4_entry_36
  · have h1 := nb_1 h1
    refine lv_aload_n (pc := 8) hx hb dX4_entry_8 rfl (lv_at hl 0 rfl) ?_
    refine lv_iload_n (pc := 9) hx hb dX4_entry_9 rfl (lv_at hl 1 rfl) ?_
    refine lv_iload_n (pc := 10) hx hb dX4_entry_10 rfl (lv_at hl 2 rfl) ?_
    refine nf_calli (pc := 11) (va_runV (As := [.int id, .int wd]) (rest := []) hC.1 (ct_X4_entryAt (mb := id) (wd := wd) (kp := kp) hkp (by omega)) (cwV 2 hC.1.2.2.2.2 (gd_V wM_X4_99 wi_X4_entryAt wsel_X4_entryAt wini_X4 wcode_X4_entryAt) rfl rfl rfl (by decide +kernel) ⟨by decide, by decide⟩) (nf_preV hC hM rfl rfl) rfl rfl hl.1 rfl (lv_room (Nat.le_of_ble_eq_true rfl)) dX4_entry_11 ⟨Nat.le_refl _, Nat.le_refl _⟩) hM (fun H locs hM => ?_)
    refine lv_goto (pc := 14) (tgt := 18) hx hb dX4_entry_14 (by decide) ?_
    refine lv_istore_n (pc := 18) (lv' := [(3, .int (ys_eat I kp id wd)), (0, .ref (ad 20 0)), (1, .int id), (2, .int wd)]) hx hb dX4_entry_18 rfl hl (by decide) rfl (fun ls hl => ?_)
    refine lv_iload_n (pc := 19) hx hb dX4_entry_19 rfl (lv_at hl 0 rfl) ?_
    refine lv_if_ge (pc := 20) (tgt := 29) hx hb dX4_entry_20 (by decide) (fun h2 => ?_) (fun h2 => ?_)
    · skip
      obtain ⟨q, hq, hqe, -⟩ := (ys_eat_c I kp id wd).resolve_left (fun z => by rw [z] at h2; exact absurd h2 (by decide))
      refine lv_aload_n (pc := 29) hx hb dX4_entry_29 rfl (lv_at hl 1 rfl) ?_
      refine nf_getr (pc := 30) hC hinX4 hM rfl rfl 10 (by decide) (List.mem_cons_of_mem _ wF_X4_35) rfl dX4_entry_30 ?_
      refine lv_iload_n (pc := 33) hx hb dX4_entry_33 rfl (lv_at hl 0 rfl) ?_
      refine nf_iald (pc := 34) hC hM 0 rfl rfl q hqe (by omega) (by decide) dX4_entry_34 ?_
      refine lv_i2l (pc := 35) hx hb dX4_entry_35 rfl ?_
      exact hret _ _ _ _ _ _ _ _ (by rw [ys_ety, if_neg (by rw [h1]; decide), if_pos h2, hqe, nI_clamp (by omega)]) rfl rfl rfl hM dX4_entry_36
    · skip
      refine lv_ldc2 (pc := 23) (v := 4294967296) hx hb hC.1.2.2.2.1 (hC.1.2.2.2.2 _ (List.mem_cons_of_mem _ wC_X4_133)) dX4_entry_23 ?_
      refine lv_goto (pc := 26) (tgt := 36) hx hb dX4_entry_26 (by decide) ?_
      exact hret _ _ _ _ _ _ _ _ (by simp [ys_ety, h1, h2]) rfl rfl rfl hM dX4_entry_36
set_option maxHeartbeats 4000000 in
set_option maxRecDepth 100000 in
theorem ct_X4_entries {id : Int32} (hkp : I 20 0 7 = nI kp) (hk2 : kp ≤ 120) : nf_Ti l yX4_entries wsX4_entries 2 41 D vwCl (xT cs) Bs (xS cs nn) ad [.ref (ad 20 0), .int id] I J P (ys_ens I kp id) I J P := by
  refine nf_enteri (cc := cX4_entries) (maxL := 4) (by decide) rfl (Nat.le_of_ble_eq_true rfl) ?_
  intro p e s m below meth c ls Q hC hM hl hret
  have hx := hC.1.1
  have hb := hC.1.2.1
  have hl : lv_has ls 4 [(0, .ref (ad 20 0)), (1, .int id)] := hl
  have hinX4 : ∀ w ∈ u_ws RX4 TX4 22, w ∈ wsX4_entries := fun w h => List.mem_cons_of_mem _ (inX4 w h)
  refine lv_aload_n (pc := 0) hx hb dX4_entries_0 rfl (lv_at hl 0 rfl) ?_
  refine lv_iload_n (pc := 1) hx hb dX4_entries_1 rfl (lv_at hl 1 rfl) ?_
  refine nf_calli (pc := 2) (va_runV (As := [.int id]) (rest := []) hC.1 (ct_X4_isMember (x := id)) (cwV 1 hC.1.2.2.2.2 (gd_V wM_X4_86 wi_X4_isMember wsel_X4_isMember wini_X4 wcode_X4_isMember) rfl rfl rfl (by decide +kernel) ⟨by decide, by decide⟩) (nf_preV hC hM rfl rfl) rfl rfl hl.1 rfl (lv_room (Nat.le_of_ble_eq_true rfl)) dX4_entries_2 ⟨Nat.le_refl _, Nat.le_refl _⟩) hM (fun H locs hM => ?_)
  refine lv_if_ne (pc := 5) (tgt := 10) hx hb dX4_entries_5 (by decide) (fun h1 => ?_) (fun h1 => ?_)
  · have h1 := nb_1 h1
    refine lv_iconst (pc := 10) (v := 0) hx hb dX4_entries_10 (by decide) ?_
    refine lv_istore_n (pc := 11) (lv' := [(2, .int 0), (0, .ref (ad 20 0)), (1, .int id)]) hx hb dX4_entries_11 rfl hl (by decide) rfl (fun ls hl => ?_)
    refine lv_iconst (pc := 12) (v := 0) hx hb dX4_entries_12 (by decide) ?_
    refine lv_istore_n (pc := 13) (lv' := [(3, .int 0), (2, .int 0), (0, .ref (ad 20 0)), (1, .int id)]) hx hb dX4_entries_13 rfl hl (by decide) rfl (fun ls hl => ?_)
    have loop14 : ∀ (n : Nat) (j : Nat) (k : Int32) (ls : Array Slot) (H : Heap) (locs : List Loc), kp - j < n → (j ≤ kp) → (ys_ens I kp id = ys_en I id (kp - j) j k) → nf_M D vwCl Bs (xS cs nn) ad I J P s.heap H locs → lv_has ls 4 [(3, .int (nI j)), (2, .int k), (0, .ref (ad 20 0)), (1, .int id)] → W p l e (nf_Rm 2 41) s m ([.ref (ad 20 0), .int id] : List Value).toArray below meth c H locs 0 0 Q (F0 m 14 ls []) := by
      intro n
      induction n with
      | zero => exact fun _ _ _ _ _ hmz => absurd hmz (Nat.not_lt_zero _)
      | succ n ihloop14 =>
        intro j k ls H locs hmz hjn hf hM hl
        refine lv_iload_n (pc := 14) hx hb dX4_entries_14 rfl (lv_at hl 0 rfl) ?_
        refine lv_aload_n (pc := 15) hx hb dX4_entries_15 rfl (lv_at hl 2 rfl) ?_
        refine nf_geti (pc := 16) hC hinX4 hM rfl rfl 7 (by decide) (List.mem_cons_of_mem _ wF_X4_96) rfl dX4_entries_16 ?_
        refine lv_icmp_ge (pc := 19) (tgt := 46) hx hb dX4_entries_19 (by decide) (fun hh => ?_) (fun hh => ?_)
        · have hj2 : kp ≤ j := (nI_leI (by omega) (by omega)).mp (by rw [hkp] at hh; exact hh)
          refine lv_iload_n (pc := 46) hx hb dX4_entries_46 rfl (lv_at hl 1 rfl) ?_
          exact hret _ _ _ _ _ _ _ _ (by rw [hf, show kp - j = 0 by omega]; rfl) rfl rfl rfl hM dX4_entries_47
        · have hj2 : j < kp := Nat.lt_of_not_le (fun z => hh (by rw [hkp]; exact (nI_leI (by omega) (by omega)).mpr z))
          refine lv_aload_n (pc := 22) hx hb dX4_entries_22 rfl (lv_at hl 2 rfl) ?_
          refine nf_getr (pc := 23) hC hinX4 hM rfl rfl 8 (by decide) (List.mem_cons_of_mem _ wF_X4_29) rfl dX4_entries_23 ?_
          refine lv_iload_n (pc := 26) hx hb dX4_entries_26 rfl (lv_at hl 0 rfl) ?_
          refine nf_iald (pc := 27) hC hM 0 rfl rfl j rfl (by omega) (by decide) dX4_entries_27 ?_
          refine lv_iload_n (pc := 28) hx hb dX4_entries_28 rfl (lv_at hl 3 rfl) ?_
          refine lv_icmp_ne (pc := 29) (tgt := 38) hx hb dX4_entries_29 (by decide) (fun h3 => ?_) (fun h3 => ?_)
          · skip
            refine lv_iload_n (pc := 38) hx hb dX4_entries_38 rfl (lv_at hl 1 rfl) ?_
            refine lv_istore_n (pc := 39) (lv' := [(2, .int k), (3, .int (nI j)), (0, .ref (ad 20 0)), (1, .int id)]) hx hb dX4_entries_39 rfl hl (by decide) rfl (fun ls hl => ?_)
            refine lv_iinc (pc := 40) (k := 1) (v := nI (j + 1)) (lv' := [(3, .int (nI (j + 1))), (2, .int k), (0, .ref (ad 20 0)), (1, .int id)]) hx hb dX4_entries_40 hl rfl (nI_1 _) (by decide) rfl (fun ls hl => ?_)
            refine lv_goto (pc := 43) (tgt := 14) hx hb dX4_entries_43 (by decide) ?_
            exact ihloop14 (j + 1) k ls _ _ (by omega) (by omega) (by rw [hf, show kp - j = (kp - (j + 1)) + 1 by omega, ys_en]; congr 1; simp [h3]) hM hl
          · skip
            refine lv_iload_n (pc := 32) hx hb dX4_entries_32 rfl (lv_at hl 1 rfl) ?_
            refine lv_iconst (pc := 33) (v := 1) hx hb dX4_entries_33 (by decide) ?_
            refine lv_iadd (pc := 34) hx hb dX4_entries_34 ?_
            refine lv_goto (pc := 35) (tgt := 39) hx hb dX4_entries_35 (by decide) ?_
            refine lv_istore_n (pc := 39) (lv' := [(2, .int (k + 1)), (3, .int (nI j)), (0, .ref (ad 20 0)), (1, .int id)]) hx hb dX4_entries_39 rfl hl (by decide) rfl (fun ls hl => ?_)
            refine lv_iinc (pc := 40) (k := 1) (v := nI (j + 1)) (lv' := [(3, .int (nI (j + 1))), (2, .int (k + 1)), (0, .ref (ad 20 0)), (1, .int id)]) hx hb dX4_entries_40 hl rfl (nI_1 _) (by decide) rfl (fun ls hl => ?_)
            refine lv_goto (pc := 43) (tgt := 14) hx hb dX4_entries_43 (by decide) ?_
            exact ihloop14 (j + 1) (k + 1) ls _ _ (by omega) (by omega) (by rw [hf, show kp - j = (kp - (j + 1)) + 1 by omega, ys_en]; congr 1; simp [h3]) hM hl
    exact loop14 _ 0 0 ls _ _ (Nat.lt_succ_self _) (Nat.zero_le _) (by simp [ys_ens, h1]) hM hl
  · have h1 := nb_0 h1
    refine lv_iconst (pc := 8) (v := -1) hx hb dX4_entries_8 (by decide) ?_
    exact hret _ _ _ _ _ _ _ _ (by simp [ys_ens, h1]) rfl rfl rfl hM dX4_entries_9
set_option maxHeartbeats 4000000 in
set_option maxRecDepth 100000 in
theorem ct_X4_answer {id : Int32}  : nf_Tl l yX4_answer wsX4_answer 1 20 D vwCl (xT cs) Bs (xS cs nn) ad [.ref (ad 20 0), .int id] I J P (ys_ans J id) I J P := by
  refine nf_enterl (cc := cX4_answer) (maxL := 2) (by decide) rfl (Nat.le_of_ble_eq_true rfl) ?_
  intro p e s m below meth c ls Q hC hM hl hret
  have hx := hC.1.1
  have hb := hC.1.2.1
  have hl : lv_has ls 2 [(0, .ref (ad 20 0)), (1, .int id)] := hl
  have hinX4 : ∀ w ∈ u_ws RX4 TX4 22, w ∈ wsX4_answer := fun w h => List.mem_cons_of_mem _ (inX4 w h)
  refine lv_iload_n (pc := 0) hx hb dX4_answer_0 rfl (lv_at hl 1 rfl) ?_
  refine nf_calli (pc := 1) (va_runS (As := [.int id]) (rest := []) hC.1 (ct_X4_isId) (cwS 1 hC.1.2.2.2.2 (gd_S wM_X4_67 wst_X4_isId wini_X4 wcode_X4_isId) rfl rfl rfl (by decide +kernel) ⟨by decide, by decide⟩) (nf_preS hC hM) rfl rfl hl.1 rfl (lv_room (Nat.le_of_ble_eq_true rfl)) dX4_answer_1 ⟨Nat.le_refl _, Nat.le_refl _⟩) hM (fun H locs hM => ?_)
  refine lv_if_eq (pc := 4) (tgt := 16) hx hb dX4_answer_4 (by decide) (fun h1 => ?_) (fun h1 => ?_)
  · have h1 := nb_0 h1
    refine lv_ldc2 (pc := 16) (v := 8589934592) hx hb hC.1.2.2.2.1 (hC.1.2.2.2.2 _ (List.mem_cons_of_mem _ wC_X4_65)) dX4_answer_16 ?_
    exact hret _ _ _ _ _ _ _ _ (by simp [ys_ans, h1]) rfl rfl rfl hM dX4_answer_19
  · have h1 := nb_1 h1
    obtain ⟨xn, hxn, hxne⟩ := ys_isId_ix h1
    refine lv_aload_n (pc := 7) hx hb dX4_answer_7 rfl (lv_at hl 0 rfl) ?_
    refine nf_getr (pc := 8) hC hinX4 hM rfl rfl 5 (by decide) (List.mem_cons_of_mem _ wF_X4_22) rfl dX4_answer_8 ?_
    refine lv_iload_n (pc := 11) hx hb dX4_answer_11 rfl (lv_at hl 1 rfl) ?_
    refine nf_lald (pc := 12) hC hM 1 rfl rfl xn hxne (by omega) (by decide) dX4_answer_12 ?_
    refine lv_goto (pc := 13) (tgt := 19) hx hb dX4_answer_13 (by decide) ?_
    exact hret _ _ _ _ _ _ _ _ (by rw [ys_ans, if_neg (by rw [h1]; decide), hxne, nI_clamp (by omega)]) rfl rfl rfl hM dX4_answer_19
set_option maxHeartbeats 4000000 in
set_option maxRecDepth 100000 in
theorem ct_X4_hops {id : Int32}  : nf_Ti l yX4_hops wsX4_hops 1 20 D vwCl (xT cs) Bs (xS cs nn) ad [.ref (ad 20 0), .int id] I J P (ys_hps I id) I J P := by
  refine nf_enteri (cc := cX4_hops) (maxL := 2) (by decide) rfl (Nat.le_of_ble_eq_true rfl) ?_
  intro p e s m below meth c ls Q hC hM hl hret
  have hx := hC.1.1
  have hb := hC.1.2.1
  have hl : lv_has ls 2 [(0, .ref (ad 20 0)), (1, .int id)] := hl
  have hinX4 : ∀ w ∈ u_ws RX4 TX4 22, w ∈ wsX4_hops := fun w h => List.mem_cons_of_mem _ (inX4 w h)
  refine lv_iload_n (pc := 0) hx hb dX4_hops_0 rfl (lv_at hl 1 rfl) ?_
  refine nf_calli (pc := 1) (va_runS (As := [.int id]) (rest := []) hC.1 (ct_X4_isId) (cwS 1 hC.1.2.2.2.2 (gd_S wM_X4_67 wst_X4_isId wini_X4 wcode_X4_isId) rfl rfl rfl (by decide +kernel) ⟨by decide, by decide⟩) (nf_preS hC hM) rfl rfl hl.1 rfl (lv_room (Nat.le_of_ble_eq_true rfl)) dX4_hops_1 ⟨Nat.le_refl _, Nat.le_refl _⟩) hM (fun H locs hM => ?_)
  refine lv_if_eq (pc := 4) (tgt := 25) hx hb dX4_hops_4 (by decide) (fun h1 => ?_) (fun h1 => ?_)
  · have h1 := nb_0 h1
    refine lv_iconst (pc := 25) (v := -1) hx hb dX4_hops_25 (by decide) ?_
    exact hret _ _ _ _ _ _ _ _ (by simp [ys_hps, h1]) rfl rfl rfl hM dX4_hops_26
  · have h1 := nb_1 h1
    obtain ⟨xn, hxn, hxne⟩ := ys_isId_ix h1
    refine lv_aload_n (pc := 7) hx hb dX4_hops_7 rfl (lv_at hl 0 rfl) ?_
    refine nf_getr (pc := 8) hC hinX4 hM rfl rfl 1 (by decide) (List.mem_cons_of_mem _ wF_X4_7) rfl dX4_hops_8 ?_
    refine lv_iload_n (pc := 11) hx hb dX4_hops_11 rfl (lv_at hl 1 rfl) ?_
    refine nf_iald (pc := 12) hC hM 0 rfl rfl xn hxne (by omega) (by decide) dX4_hops_12 ?_
    refine lv_if_le (pc := 13) (tgt := 25) hx hb dX4_hops_13 (by decide) (fun h2 => ?_) (fun h2 => ?_)
    · skip
      refine lv_iconst (pc := 25) (v := -1) hx hb dX4_hops_25 (by decide) ?_
      exact hret _ _ _ _ _ _ _ _ (by rw [ys_hps, if_neg (by rw [h1]; decide), hxne, nI_clamp (by omega), if_pos h2]) rfl rfl rfl hM dX4_hops_26
    · skip
      refine lv_aload_n (pc := 16) hx hb dX4_hops_16 rfl (lv_at hl 0 rfl) ?_
      refine nf_getr (pc := 17) hC hinX4 hM rfl rfl 6 (by decide) (List.mem_cons_of_mem _ wF_X4_26) rfl dX4_hops_17 ?_
      refine lv_iload_n (pc := 20) hx hb dX4_hops_20 rfl (lv_at hl 1 rfl) ?_
      refine nf_iald (pc := 21) hC hM 0 rfl rfl xn hxne (by omega) (by decide) dX4_hops_21 ?_
      refine lv_goto (pc := 22) (tgt := 26) hx hb dX4_hops_22 (by decide) ?_
      exact hret _ _ _ _ _ _ _ _ (by rw [ys_hps, if_neg (by rw [h1]; decide), hxne, nI_clamp (by omega), if_neg h2]) rfl rfl rfl hM dX4_hops_26
set_option maxHeartbeats 4000000 in
set_option maxRecDepth 100000 in
theorem ct_X4_owner {wd : Int32}  : nf_Ti l yX4_owner wsX4_owner 1 24 D vwCl (xT cs) Bs (xS cs nn) ad [.ref (ad 20 0), .int wd] I J P (ys_own I wd) I J P := by
  refine nf_enteri (cc := cX4_owner) (maxL := 2) (by decide) rfl (Nat.le_of_ble_eq_true rfl) ?_
  intro p e s m below meth c ls Q hC hM hl hret
  have hx := hC.1.1
  have hb := hC.1.2.1
  have hl : lv_has ls 2 [(0, .ref (ad 20 0)), (1, .int wd)] := hl
  refine lv_iload_n (pc := 0) hx hb dX4_owner_0 rfl (lv_at hl 1 rfl) ?_
  refine nf_calli (pc := 1) (va_runS (As := [.int wd]) (rest := []) hC.1 (ct_X4_isId) (cwS 1 hC.1.2.2.2.2 (gd_S wM_X4_67 wst_X4_isId wini_X4 wcode_X4_isId) rfl rfl rfl (by decide +kernel) ⟨by decide, by decide⟩) (nf_preS hC hM) rfl rfl hl.1 rfl (lv_room (Nat.le_of_ble_eq_true rfl)) dX4_owner_1 ⟨Nat.le_refl _, Nat.le_refl _⟩) hM (fun H locs hM => ?_)
  refine lv_if_eq (pc := 4) (tgt := 16) hx hb dX4_owner_4 (by decide) (fun h1 => ?_) (fun h1 => ?_)
  · have h1 := nb_0 h1
    refine lv_iconst (pc := 16) (v := -1) hx hb dX4_owner_16 (by decide) ?_
    exact hret _ _ _ _ _ _ _ _ (by simp [nb_I, ys_own, h1]) rfl rfl rfl hM dX4_owner_17
  · have h1 := nb_1 h1
    refine lv_aload_n (pc := 7) hx hb dX4_owner_7 rfl (lv_at hl 0 rfl) ?_
    refine lv_iload_n (pc := 8) hx hb dX4_owner_8 rfl (lv_at hl 1 rfl) ?_
    refine lv_iconst (pc := 9) (v := 1) hx hb dX4_owner_9 (by decide) ?_
    refine nf_calli (pc := 10) (va_runV (As := [.int wd, .int 1]) (rest := []) hC.1 (ct_X4_first) (cwV 2 hC.1.2.2.2.2 (gd_V wM_X4_141 wi_X4_first wsel_X4_first wini_X4 wcode_X4_first) rfl rfl rfl (by decide +kernel) ⟨by decide, by decide⟩) (nf_preV hC hM rfl rfl) rfl rfl hl.1 rfl (lv_room (Nat.le_of_ble_eq_true rfl)) dX4_owner_10 ⟨Nat.le_refl _, Nat.le_refl _⟩) hM (fun H locs hM => ?_)
    refine lv_goto (pc := 13) (tgt := 17) hx hb dX4_owner_13 (by decide) ?_
    exact hret _ _ _ _ _ _ _ _ (by simp [nb_I, ys_own, h1]) rfl rfl rfl hM dX4_owner_17
end YA
end
section
/-! The model: wrong, misplaced. -/
section YB
variable {l : Launch} {D : va_G} {cs : Nat → ClassId} {Bs nn rwn kp : Nat} {ad : nf_A} {I : nf_I} {J : nf_J} {P : nf_P}
set_option maxHeartbeats 4000000 in
set_option maxRecDepth 100000 in
theorem ct_X4_wrong   : nf_Ti l yX4_wrong wsX4_wrong 1 24 D vwCl (xT cs) Bs (xS cs nn) ad [.ref (ad 20 0)] I J P (ys_wr I 256 0 0) I J P := by
  refine nf_enteri (cc := cX4_wrong) (maxL := 4) (by decide) rfl (Nat.le_of_ble_eq_true rfl) ?_
  intro p e s m below meth c ls Q hC hM hl hret
  have hx := hC.1.1
  have hb := hC.1.2.1
  have hl : lv_has ls 4 [(0, .ref (ad 20 0))] := hl
  have hinX4 : ∀ w ∈ u_ws RX4 TX4 22, w ∈ wsX4_wrong := fun w h => List.mem_cons_of_mem _ (inX4 w h)
  refine lv_iconst (pc := 0) (v := 0) hx hb dX4_wrong_0 (by decide) ?_
  refine lv_istore_n (pc := 1) (lv' := [(1, .int 0), (0, .ref (ad 20 0))]) hx hb dX4_wrong_1 rfl hl (by decide) rfl (fun ls hl => ?_)
  refine lv_iconst (pc := 2) (v := 0) hx hb dX4_wrong_2 (by decide) ?_
  refine lv_istore_n (pc := 3) (lv' := [(2, .int 0), (1, .int 0), (0, .ref (ad 20 0))]) hx hb dX4_wrong_3 rfl hl (by decide) rfl (fun ls hl => ?_)
  have loop4 : ∀ (n : Nat) (d : Nat) (k : Int32) (ls : Array Slot) (H : Heap) (locs : List Loc), 256 - d < n → (d ≤ 256) → (ys_wr I 256 0 0 = ys_wr I (256 - d) d k) → nf_M D vwCl Bs (xS cs nn) ad I J P s.heap H locs → lv_has ls 4 [(2, .int (nI d)), (1, .int k), (0, .ref (ad 20 0))] → W p l e (nf_Rm 1 24) s m ([.ref (ad 20 0)] : List Value).toArray below meth c H locs 0 0 Q (F0 m 4 ls []) := by
    intro n
    induction n with
    | zero => exact fun _ _ _ _ _ hmz => absurd hmz (Nat.not_lt_zero _)
    | succ n ihloop4 =>
      intro d k ls H locs hmz hdn hf hM hl
      refine lv_iload_n (pc := 4) hx hb dX4_wrong_4 rfl (lv_at hl 0 rfl) ?_
      refine lv_sipush (pc := 5) (v := nI 256) hx hb dX4_wrong_5 (by decide) ?_
      refine lv_icmp_ge (pc := 8) (tgt := 125) hx hb dX4_wrong_8 (by decide) (fun hh => ?_) (fun hh => ?_)
      · have hj1 : 256 ≤ d := (nI_leI (by omega) (by omega)).mp (by exact hh)
        refine lv_iload_n (pc := 125) hx hb dX4_wrong_125 rfl (lv_at hl 1 rfl) ?_
        exact hret _ _ _ _ _ _ _ _ (by rw [hf, show 256 - d = 0 by omega]; rfl) rfl rfl rfl hM dX4_wrong_126
      · have hj1 : d < 256 := Nat.lt_of_not_le (fun z => hh (by exact (nI_leI (by omega) (by omega)).mpr z))
        refine lv_aload_n (pc := 11) hx hb dX4_wrong_11 rfl (lv_at hl 2 rfl) ?_
        refine nf_getr (pc := 12) hC hinX4 hM rfl rfl 1 (by decide) (List.mem_cons_of_mem _ wF_X4_7) rfl dX4_wrong_12 ?_
        refine lv_iload_n (pc := 15) hx hb dX4_wrong_15 rfl (lv_at hl 0 rfl) ?_
        refine nf_iald (pc := 16) hC hM 0 rfl rfl d rfl (by omega) (by decide) dX4_wrong_16 ?_
        refine lv_iconst (pc := 17) (v := 2) hx hb dX4_wrong_17 (by decide) ?_
        refine lv_icmp_ne (pc := 18) (tgt := 119) hx hb dX4_wrong_18 (by decide) (fun h2 => ?_) (fun h2 => ?_)
        · skip
          refine lv_iinc (pc := 119) (k := 0) (v := nI (d + 1)) (lv' := [(2, .int (nI (d + 1))), (1, .int k), (0, .ref (ad 20 0))]) hx hb dX4_wrong_119 hl rfl (nI_1 _) (by decide) rfl (fun ls hl => ?_)
          refine lv_goto (pc := 122) (tgt := 4) hx hb dX4_wrong_122 (by decide) ?_
          exact ihloop4 (d + 1) k ls _ _ (by omega) (by omega) (by rw [hf, show 256 - d = (256 - (d + 1)) + 1 by omega, ys_wr, if_neg h2]) hM hl
        · skip
          refine lv_aload_n (pc := 21) hx hb dX4_wrong_21 rfl (lv_at hl 2 rfl) ?_
          refine nf_getr (pc := 22) hC hinX4 hM rfl rfl 2 (by decide) (List.mem_cons_of_mem _ wF_X4_13) rfl dX4_wrong_22 ?_
          refine lv_iload_n (pc := 25) hx hb dX4_wrong_25 rfl (lv_at hl 0 rfl) ?_
          refine nf_iald (pc := 26) hC hM 0 rfl rfl d rfl (by omega) (by decide) dX4_wrong_26 ?_
          refine lv_aload_n (pc := 27) hx hb dX4_wrong_27 rfl (lv_at hl 2 rfl) ?_
          refine lv_iload_n (pc := 28) hx hb dX4_wrong_28 rfl (lv_at hl 0 rfl) ?_
          refine lv_iconst (pc := 29) (v := 1) hx hb dX4_wrong_29 (by decide) ?_
          refine lv_iadd (pc := 30) hx hb dX4_wrong_30 ?_
          refine lv_iconst (pc := 31) (v := 1) hx hb dX4_wrong_31 (by decide) ?_
          refine nf_calli (pc := 32) (va_runV (As := [.int ((nI d) + 1), .int 1]) (rest := [.int (I 22 0 d)]) hC.1 (ct_X4_first) (cwV 2 hC.1.2.2.2.2 (gd_V wM_X4_141 wi_X4_first wsel_X4_first wini_X4 wcode_X4_first) rfl rfl rfl (by decide +kernel) ⟨by decide, by decide⟩) (nf_preV hC hM rfl rfl) rfl rfl hl.1 rfl (lv_room (Nat.le_of_ble_eq_true rfl)) dX4_wrong_32 ⟨Nat.le_refl _, Nat.le_refl _⟩) hM (fun H locs hM => ?_)
          refine lv_icmp_eq (pc := 35) (tgt := 44) hx hb dX4_wrong_35 (by decide) (fun h3 => ?_) (fun h3 => ?_)
          · skip
            refine lv_iload_n (pc := 44) hx hb dX4_wrong_44 rfl (lv_at hl 1 rfl) ?_
            refine lv_istore_n (pc := 45) (lv' := [(1, .int k), (2, .int (nI d)), (0, .ref (ad 20 0))]) hx hb dX4_wrong_45 rfl hl (by decide) rfl (fun ls hl => ?_)
            refine lv_aload_n (pc := 46) hx hb dX4_wrong_46 rfl (lv_at hl 2 rfl) ?_
            refine nf_getr (pc := 47) hC hinX4 hM rfl rfl 3 (by decide) (List.mem_cons_of_mem _ wF_X4_16) rfl dX4_wrong_47 ?_
            refine lv_iload_n (pc := 50) hx hb dX4_wrong_50 rfl (lv_at hl 1 rfl) ?_
            refine nf_iald (pc := 51) hC hM 0 rfl rfl d rfl (by omega) (by decide) dX4_wrong_51 ?_
            refine lv_aload_n (pc := 52) hx hb dX4_wrong_52 rfl (lv_at hl 2 rfl) ?_
            refine lv_iload_n (pc := 53) hx hb dX4_wrong_53 rfl (lv_at hl 1 rfl) ?_
            refine lv_sipush (pc := 54) (v := 255) hx hb dX4_wrong_54 (by decide) ?_
            refine lv_iadd (pc := 57) hx hb dX4_wrong_57 ?_
            refine lv_iconst (pc := 58) (v := -1) hx hb dX4_wrong_58 (by decide) ?_
            refine nf_calli (pc := 59) (va_runV (As := [.int ((nI d) + 255), .int (-1)]) (rest := [.int (I 23 0 d)]) hC.1 (ct_X4_first) (cwV 2 hC.1.2.2.2.2 (gd_V wM_X4_141 wi_X4_first wsel_X4_first wini_X4 wcode_X4_first) rfl rfl rfl (by decide +kernel) ⟨by decide, by decide⟩) (nf_preV hC hM rfl rfl) rfl rfl hl.1 rfl (lv_room (Nat.le_of_ble_eq_true rfl)) dX4_wrong_59 ⟨Nat.le_refl _, Nat.le_refl _⟩) hM (fun H locs hM => ?_)
            refine lv_icmp_eq (pc := 62) (tgt := 71) hx hb dX4_wrong_62 (by decide) (fun h4 => ?_) (fun h4 => ?_)
            · skip
              refine lv_iload_n (pc := 71) hx hb dX4_wrong_71 rfl (lv_at hl 0 rfl) ?_
              refine lv_istore_n (pc := 72) (lv' := [(1, .int k), (2, .int (nI d)), (0, .ref (ad 20 0))]) hx hb dX4_wrong_72 rfl hl (by decide) rfl (fun ls hl => ?_)
              refine lv_iconst (pc := 73) (v := 0) hx hb dX4_wrong_73 (by decide) ?_
              refine lv_istore_n (pc := 74) (lv' := [(3, .int 0), (1, .int k), (2, .int (nI d)), (0, .ref (ad 20 0))]) hx hb dX4_wrong_74 rfl hl (by decide) rfl (fun ls hl => ?_)
              have loop75 : ∀ (n : Nat) (j : Nat) (q : Int32) (ls : Array Slot) (H : Heap) (locs : List Loc), 8 - j < n → (j ≤ 8) → (ys_wf I d 8 0 (ys_w2 I d (ys_w1 I d k)) = ys_wf I d (8 - j) j q) → nf_M D vwCl Bs (xS cs nn) ad I J P s.heap H locs → lv_has ls 4 [(3, .int (nI j)), (2, .int (nI d)), (1, .int q), (0, .ref (ad 20 0))] → W p l e (nf_Rm 1 24) s m ([.ref (ad 20 0)] : List Value).toArray below meth c H locs 0 0 Q (F0 m 75 ls []) := by
                intro n
                induction n with
                | zero => exact fun _ _ _ _ _ hmz => absurd hmz (Nat.not_lt_zero _)
                | succ n ihloop75 =>
                  intro j q ls H locs hmz hjn hg hM hl
                  refine lv_iload_n (pc := 75) hx hb dX4_wrong_75 rfl (lv_at hl 0 rfl) ?_
                  refine lv_bipush (pc := 76) (v := nI 8) hx hb dX4_wrong_76 (by decide) ?_
                  refine lv_icmp_ge (pc := 78) (tgt := 119) hx hb dX4_wrong_78 (by decide) (fun hh => ?_) (fun hh => ?_)
                  · have hj5 : 8 ≤ j := (nI_leI (by omega) (by omega)).mp (by exact hh)
                    refine lv_iinc (pc := 119) (k := 1) (v := nI (d + 1)) (lv' := [(2, .int (nI (d + 1))), (3, .int (nI j)), (1, .int q), (0, .ref (ad 20 0))]) hx hb dX4_wrong_119 hl rfl (nI_1 _) (by decide) rfl (fun ls hl => ?_)
                    refine lv_goto (pc := 122) (tgt := 4) hx hb dX4_wrong_122 (by decide) ?_
                    exact ihloop4 (d + 1) q ls _ _ (by omega) (by omega) (by rw [hf, show 256 - d = (256 - (d + 1)) + 1 by omega, ys_wr, if_pos h2, hg, show 8 - j = 0 by omega]; rfl) hM (lv_sub hl [0, 2, 3] rfl)
                  · have hj5 : j < 8 := Nat.lt_of_not_le (fun z => hh (by exact (nI_leI (by omega) (by omega)).mpr z))
                    refine lv_aload_n (pc := 81) hx hb dX4_wrong_81 rfl (lv_at hl 3 rfl) ?_
                    refine nf_getr (pc := 82) hC hinX4 hM rfl rfl 4 (by decide) (List.mem_cons_of_mem _ wF_X4_19) rfl dX4_wrong_82 ?_
                    refine lv_bipush (pc := 85) (v := 8) hx hb dX4_wrong_85 (by decide) ?_
                    refine lv_iload_n (pc := 87) hx hb dX4_wrong_87 rfl (lv_at hl 1 rfl) ?_
                    refine lv_imul (pc := 88) hx hb dX4_wrong_88 ?_
                    refine lv_iload_n (pc := 89) hx hb dX4_wrong_89 rfl (lv_at hl 0 rfl) ?_
                    refine lv_iadd (pc := 90) hx hb dX4_wrong_90 ?_
                    refine nf_iald (pc := 91) hC hM 0 rfl rfl (8 * d + j) (nk_8 rfl rfl) (by omega) (by decide) dX4_wrong_91 ?_
                    refine lv_aload_n (pc := 92) hx hb dX4_wrong_92 rfl (lv_at hl 3 rfl) ?_
                    refine lv_iload_n (pc := 93) hx hb dX4_wrong_93 rfl (lv_at hl 1 rfl) ?_
                    refine lv_iconst (pc := 94) (v := 1) hx hb dX4_wrong_94 (by decide) ?_
                    refine lv_iload_n (pc := 95) hx hb dX4_wrong_95 rfl (lv_at hl 0 rfl) ?_
                    refine lv_ishl (pc := 96) hx hb dX4_wrong_96 ?_
                    refine lv_iadd (pc := 97) hx hb dX4_wrong_97 ?_
                    refine lv_iconst (pc := 98) (v := 1) hx hb dX4_wrong_98 (by decide) ?_
                    refine nf_calli (pc := 99) (va_runV (As := [.int ((nI d) + (1 <<< ((nI j) &&& 31))), .int 1]) (rest := [.int (I 24 0 (8 * d + j))]) hC.1 (ct_X4_first) (cwV 2 hC.1.2.2.2.2 (gd_V wM_X4_141 wi_X4_first wsel_X4_first wini_X4 wcode_X4_first) rfl rfl rfl (by decide +kernel) ⟨by decide, by decide⟩) (nf_preV hC hM rfl rfl) rfl rfl hl.1 rfl (lv_room (Nat.le_of_ble_eq_true rfl)) dX4_wrong_99 ⟨Nat.le_refl _, Nat.le_refl _⟩) hM (fun H locs hM => ?_)
                    refine lv_icmp_eq (pc := 102) (tgt := 111) hx hb dX4_wrong_102 (by decide) (fun h6 => ?_) (fun h6 => ?_)
                    · skip
                      refine lv_iload_n (pc := 111) hx hb dX4_wrong_111 rfl (lv_at hl 2 rfl) ?_
                      refine lv_istore_n (pc := 112) (lv' := [(1, .int q), (3, .int (nI j)), (2, .int (nI d)), (0, .ref (ad 20 0))]) hx hb dX4_wrong_112 rfl hl (by decide) rfl (fun ls hl => ?_)
                      refine lv_iinc (pc := 113) (k := 1) (v := nI (j + 1)) (lv' := [(3, .int (nI (j + 1))), (1, .int q), (2, .int (nI d)), (0, .ref (ad 20 0))]) hx hb dX4_wrong_113 hl rfl (nI_1 _) (by decide) rfl (fun ls hl => ?_)
                      refine lv_goto (pc := 116) (tgt := 75) hx hb dX4_wrong_116 (by decide) ?_
                      exact ihloop75 (j + 1) q ls _ _ (by omega) (by omega) (by rw [hg, show 8 - j = (8 - (j + 1)) + 1 by omega, ys_wf]; congr 1; simp [h6]) hM (lv_sub hl [0, 2, 1, 3] rfl)
                    · skip
                      refine lv_iload_n (pc := 105) hx hb dX4_wrong_105 rfl (lv_at hl 2 rfl) ?_
                      refine lv_iconst (pc := 106) (v := 1) hx hb dX4_wrong_106 (by decide) ?_
                      refine lv_iadd (pc := 107) hx hb dX4_wrong_107 ?_
                      refine lv_goto (pc := 108) (tgt := 112) hx hb dX4_wrong_108 (by decide) ?_
                      refine lv_istore_n (pc := 112) (lv' := [(1, .int (q + 1)), (3, .int (nI j)), (2, .int (nI d)), (0, .ref (ad 20 0))]) hx hb dX4_wrong_112 rfl hl (by decide) rfl (fun ls hl => ?_)
                      refine lv_iinc (pc := 113) (k := 1) (v := nI (j + 1)) (lv' := [(3, .int (nI (j + 1))), (1, .int (q + 1)), (2, .int (nI d)), (0, .ref (ad 20 0))]) hx hb dX4_wrong_113 hl rfl (nI_1 _) (by decide) rfl (fun ls hl => ?_)
                      refine lv_goto (pc := 116) (tgt := 75) hx hb dX4_wrong_116 (by decide) ?_
                      exact ihloop75 (j + 1) (q + 1) ls _ _ (by omega) (by omega) (by rw [hg, show 8 - j = (8 - (j + 1)) + 1 by omega, ys_wf]; congr 1; simp [h6]) hM (lv_sub hl [0, 2, 1, 3] rfl)
              exact loop75 _ 0 k ls _ _ (Nat.lt_succ_self _) (Nat.zero_le _) (by simp [ys_w1, ys_w2, h3, h4]) hM (lv_sub hl [0, 2, 1, 3] rfl)
            · skip
              refine lv_iload_n (pc := 65) hx hb dX4_wrong_65 rfl (lv_at hl 0 rfl) ?_
              refine lv_iconst (pc := 66) (v := 1) hx hb dX4_wrong_66 (by decide) ?_
              refine lv_iadd (pc := 67) hx hb dX4_wrong_67 ?_
              refine lv_goto (pc := 68) (tgt := 72) hx hb dX4_wrong_68 (by decide) ?_
              refine lv_istore_n (pc := 72) (lv' := [(1, .int (k + 1)), (2, .int (nI d)), (0, .ref (ad 20 0))]) hx hb dX4_wrong_72 rfl hl (by decide) rfl (fun ls hl => ?_)
              refine lv_iconst (pc := 73) (v := 0) hx hb dX4_wrong_73 (by decide) ?_
              refine lv_istore_n (pc := 74) (lv' := [(3, .int 0), (1, .int (k + 1)), (2, .int (nI d)), (0, .ref (ad 20 0))]) hx hb dX4_wrong_74 rfl hl (by decide) rfl (fun ls hl => ?_)
              have loop75 : ∀ (n : Nat) (j : Nat) (q : Int32) (ls : Array Slot) (H : Heap) (locs : List Loc), 8 - j < n → (j ≤ 8) → (ys_wf I d 8 0 (ys_w2 I d (ys_w1 I d k)) = ys_wf I d (8 - j) j q) → nf_M D vwCl Bs (xS cs nn) ad I J P s.heap H locs → lv_has ls 4 [(3, .int (nI j)), (2, .int (nI d)), (1, .int q), (0, .ref (ad 20 0))] → W p l e (nf_Rm 1 24) s m ([.ref (ad 20 0)] : List Value).toArray below meth c H locs 0 0 Q (F0 m 75 ls []) := by
                intro n
                induction n with
                | zero => exact fun _ _ _ _ _ hmz => absurd hmz (Nat.not_lt_zero _)
                | succ n ihloop75 =>
                  intro j q ls H locs hmz hjn hg hM hl
                  refine lv_iload_n (pc := 75) hx hb dX4_wrong_75 rfl (lv_at hl 0 rfl) ?_
                  refine lv_bipush (pc := 76) (v := nI 8) hx hb dX4_wrong_76 (by decide) ?_
                  refine lv_icmp_ge (pc := 78) (tgt := 119) hx hb dX4_wrong_78 (by decide) (fun hh => ?_) (fun hh => ?_)
                  · have hj7 : 8 ≤ j := (nI_leI (by omega) (by omega)).mp (by exact hh)
                    refine lv_iinc (pc := 119) (k := 1) (v := nI (d + 1)) (lv' := [(2, .int (nI (d + 1))), (3, .int (nI j)), (1, .int q), (0, .ref (ad 20 0))]) hx hb dX4_wrong_119 hl rfl (nI_1 _) (by decide) rfl (fun ls hl => ?_)
                    refine lv_goto (pc := 122) (tgt := 4) hx hb dX4_wrong_122 (by decide) ?_
                    exact ihloop4 (d + 1) q ls _ _ (by omega) (by omega) (by rw [hf, show 256 - d = (256 - (d + 1)) + 1 by omega, ys_wr, if_pos h2, hg, show 8 - j = 0 by omega]; rfl) hM (lv_sub hl [0, 2, 3] rfl)
                  · have hj7 : j < 8 := Nat.lt_of_not_le (fun z => hh (by exact (nI_leI (by omega) (by omega)).mpr z))
                    refine lv_aload_n (pc := 81) hx hb dX4_wrong_81 rfl (lv_at hl 3 rfl) ?_
                    refine nf_getr (pc := 82) hC hinX4 hM rfl rfl 4 (by decide) (List.mem_cons_of_mem _ wF_X4_19) rfl dX4_wrong_82 ?_
                    refine lv_bipush (pc := 85) (v := 8) hx hb dX4_wrong_85 (by decide) ?_
                    refine lv_iload_n (pc := 87) hx hb dX4_wrong_87 rfl (lv_at hl 1 rfl) ?_
                    refine lv_imul (pc := 88) hx hb dX4_wrong_88 ?_
                    refine lv_iload_n (pc := 89) hx hb dX4_wrong_89 rfl (lv_at hl 0 rfl) ?_
                    refine lv_iadd (pc := 90) hx hb dX4_wrong_90 ?_
                    refine nf_iald (pc := 91) hC hM 0 rfl rfl (8 * d + j) (nk_8 rfl rfl) (by omega) (by decide) dX4_wrong_91 ?_
                    refine lv_aload_n (pc := 92) hx hb dX4_wrong_92 rfl (lv_at hl 3 rfl) ?_
                    refine lv_iload_n (pc := 93) hx hb dX4_wrong_93 rfl (lv_at hl 1 rfl) ?_
                    refine lv_iconst (pc := 94) (v := 1) hx hb dX4_wrong_94 (by decide) ?_
                    refine lv_iload_n (pc := 95) hx hb dX4_wrong_95 rfl (lv_at hl 0 rfl) ?_
                    refine lv_ishl (pc := 96) hx hb dX4_wrong_96 ?_
                    refine lv_iadd (pc := 97) hx hb dX4_wrong_97 ?_
                    refine lv_iconst (pc := 98) (v := 1) hx hb dX4_wrong_98 (by decide) ?_
                    refine nf_calli (pc := 99) (va_runV (As := [.int ((nI d) + (1 <<< ((nI j) &&& 31))), .int 1]) (rest := [.int (I 24 0 (8 * d + j))]) hC.1 (ct_X4_first) (cwV 2 hC.1.2.2.2.2 (gd_V wM_X4_141 wi_X4_first wsel_X4_first wini_X4 wcode_X4_first) rfl rfl rfl (by decide +kernel) ⟨by decide, by decide⟩) (nf_preV hC hM rfl rfl) rfl rfl hl.1 rfl (lv_room (Nat.le_of_ble_eq_true rfl)) dX4_wrong_99 ⟨Nat.le_refl _, Nat.le_refl _⟩) hM (fun H locs hM => ?_)
                    refine lv_icmp_eq (pc := 102) (tgt := 111) hx hb dX4_wrong_102 (by decide) (fun h8 => ?_) (fun h8 => ?_)
                    · skip
                      refine lv_iload_n (pc := 111) hx hb dX4_wrong_111 rfl (lv_at hl 2 rfl) ?_
                      refine lv_istore_n (pc := 112) (lv' := [(1, .int q), (3, .int (nI j)), (2, .int (nI d)), (0, .ref (ad 20 0))]) hx hb dX4_wrong_112 rfl hl (by decide) rfl (fun ls hl => ?_)
                      refine lv_iinc (pc := 113) (k := 1) (v := nI (j + 1)) (lv' := [(3, .int (nI (j + 1))), (1, .int q), (2, .int (nI d)), (0, .ref (ad 20 0))]) hx hb dX4_wrong_113 hl rfl (nI_1 _) (by decide) rfl (fun ls hl => ?_)
                      refine lv_goto (pc := 116) (tgt := 75) hx hb dX4_wrong_116 (by decide) ?_
                      exact ihloop75 (j + 1) q ls _ _ (by omega) (by omega) (by rw [hg, show 8 - j = (8 - (j + 1)) + 1 by omega, ys_wf]; congr 1; simp [h8]) hM (lv_sub hl [0, 2, 1, 3] rfl)
                    · skip
                      refine lv_iload_n (pc := 105) hx hb dX4_wrong_105 rfl (lv_at hl 2 rfl) ?_
                      refine lv_iconst (pc := 106) (v := 1) hx hb dX4_wrong_106 (by decide) ?_
                      refine lv_iadd (pc := 107) hx hb dX4_wrong_107 ?_
                      refine lv_goto (pc := 108) (tgt := 112) hx hb dX4_wrong_108 (by decide) ?_
                      refine lv_istore_n (pc := 112) (lv' := [(1, .int (q + 1)), (3, .int (nI j)), (2, .int (nI d)), (0, .ref (ad 20 0))]) hx hb dX4_wrong_112 rfl hl (by decide) rfl (fun ls hl => ?_)
                      refine lv_iinc (pc := 113) (k := 1) (v := nI (j + 1)) (lv' := [(3, .int (nI (j + 1))), (1, .int (q + 1)), (2, .int (nI d)), (0, .ref (ad 20 0))]) hx hb dX4_wrong_113 hl rfl (nI_1 _) (by decide) rfl (fun ls hl => ?_)
                      refine lv_goto (pc := 116) (tgt := 75) hx hb dX4_wrong_116 (by decide) ?_
                      exact ihloop75 (j + 1) (q + 1) ls _ _ (by omega) (by omega) (by rw [hg, show 8 - j = (8 - (j + 1)) + 1 by omega, ys_wf]; congr 1; simp [h8]) hM (lv_sub hl [0, 2, 1, 3] rfl)
              exact loop75 _ 0 (k + 1) ls _ _ (Nat.lt_succ_self _) (Nat.zero_le _) (by simp [ys_w1, ys_w2, h3, h4]) hM (lv_sub hl [0, 2, 1, 3] rfl)
          · skip
            refine lv_iload_n (pc := 38) hx hb dX4_wrong_38 rfl (lv_at hl 1 rfl) ?_
            refine lv_iconst (pc := 39) (v := 1) hx hb dX4_wrong_39 (by decide) ?_
            refine lv_iadd (pc := 40) hx hb dX4_wrong_40 ?_
            refine lv_goto (pc := 41) (tgt := 45) hx hb dX4_wrong_41 (by decide) ?_
            refine lv_istore_n (pc := 45) (lv' := [(1, .int (k + 1)), (2, .int (nI d)), (0, .ref (ad 20 0))]) hx hb dX4_wrong_45 rfl hl (by decide) rfl (fun ls hl => ?_)
            refine lv_aload_n (pc := 46) hx hb dX4_wrong_46 rfl (lv_at hl 2 rfl) ?_
            refine nf_getr (pc := 47) hC hinX4 hM rfl rfl 3 (by decide) (List.mem_cons_of_mem _ wF_X4_16) rfl dX4_wrong_47 ?_
            refine lv_iload_n (pc := 50) hx hb dX4_wrong_50 rfl (lv_at hl 1 rfl) ?_
            refine nf_iald (pc := 51) hC hM 0 rfl rfl d rfl (by omega) (by decide) dX4_wrong_51 ?_
            refine lv_aload_n (pc := 52) hx hb dX4_wrong_52 rfl (lv_at hl 2 rfl) ?_
            refine lv_iload_n (pc := 53) hx hb dX4_wrong_53 rfl (lv_at hl 1 rfl) ?_
            refine lv_sipush (pc := 54) (v := 255) hx hb dX4_wrong_54 (by decide) ?_
            refine lv_iadd (pc := 57) hx hb dX4_wrong_57 ?_
            refine lv_iconst (pc := 58) (v := -1) hx hb dX4_wrong_58 (by decide) ?_
            refine nf_calli (pc := 59) (va_runV (As := [.int ((nI d) + 255), .int (-1)]) (rest := [.int (I 23 0 d)]) hC.1 (ct_X4_first) (cwV 2 hC.1.2.2.2.2 (gd_V wM_X4_141 wi_X4_first wsel_X4_first wini_X4 wcode_X4_first) rfl rfl rfl (by decide +kernel) ⟨by decide, by decide⟩) (nf_preV hC hM rfl rfl) rfl rfl hl.1 rfl (lv_room (Nat.le_of_ble_eq_true rfl)) dX4_wrong_59 ⟨Nat.le_refl _, Nat.le_refl _⟩) hM (fun H locs hM => ?_)
            refine lv_icmp_eq (pc := 62) (tgt := 71) hx hb dX4_wrong_62 (by decide) (fun h9 => ?_) (fun h9 => ?_)
            · skip
              refine lv_iload_n (pc := 71) hx hb dX4_wrong_71 rfl (lv_at hl 0 rfl) ?_
              refine lv_istore_n (pc := 72) (lv' := [(1, .int (k + 1)), (2, .int (nI d)), (0, .ref (ad 20 0))]) hx hb dX4_wrong_72 rfl hl (by decide) rfl (fun ls hl => ?_)
              refine lv_iconst (pc := 73) (v := 0) hx hb dX4_wrong_73 (by decide) ?_
              refine lv_istore_n (pc := 74) (lv' := [(3, .int 0), (1, .int (k + 1)), (2, .int (nI d)), (0, .ref (ad 20 0))]) hx hb dX4_wrong_74 rfl hl (by decide) rfl (fun ls hl => ?_)
              have loop75 : ∀ (n : Nat) (j : Nat) (q : Int32) (ls : Array Slot) (H : Heap) (locs : List Loc), 8 - j < n → (j ≤ 8) → (ys_wf I d 8 0 (ys_w2 I d (ys_w1 I d k)) = ys_wf I d (8 - j) j q) → nf_M D vwCl Bs (xS cs nn) ad I J P s.heap H locs → lv_has ls 4 [(3, .int (nI j)), (2, .int (nI d)), (1, .int q), (0, .ref (ad 20 0))] → W p l e (nf_Rm 1 24) s m ([.ref (ad 20 0)] : List Value).toArray below meth c H locs 0 0 Q (F0 m 75 ls []) := by
                intro n
                induction n with
                | zero => exact fun _ _ _ _ _ hmz => absurd hmz (Nat.not_lt_zero _)
                | succ n ihloop75 =>
                  intro j q ls H locs hmz hjn hg hM hl
                  refine lv_iload_n (pc := 75) hx hb dX4_wrong_75 rfl (lv_at hl 0 rfl) ?_
                  refine lv_bipush (pc := 76) (v := nI 8) hx hb dX4_wrong_76 (by decide) ?_
                  refine lv_icmp_ge (pc := 78) (tgt := 119) hx hb dX4_wrong_78 (by decide) (fun hh => ?_) (fun hh => ?_)
                  · have hj10 : 8 ≤ j := (nI_leI (by omega) (by omega)).mp (by exact hh)
                    refine lv_iinc (pc := 119) (k := 1) (v := nI (d + 1)) (lv' := [(2, .int (nI (d + 1))), (3, .int (nI j)), (1, .int q), (0, .ref (ad 20 0))]) hx hb dX4_wrong_119 hl rfl (nI_1 _) (by decide) rfl (fun ls hl => ?_)
                    refine lv_goto (pc := 122) (tgt := 4) hx hb dX4_wrong_122 (by decide) ?_
                    exact ihloop4 (d + 1) q ls _ _ (by omega) (by omega) (by rw [hf, show 256 - d = (256 - (d + 1)) + 1 by omega, ys_wr, if_pos h2, hg, show 8 - j = 0 by omega]; rfl) hM (lv_sub hl [0, 2, 3] rfl)
                  · have hj10 : j < 8 := Nat.lt_of_not_le (fun z => hh (by exact (nI_leI (by omega) (by omega)).mpr z))
                    refine lv_aload_n (pc := 81) hx hb dX4_wrong_81 rfl (lv_at hl 3 rfl) ?_
                    refine nf_getr (pc := 82) hC hinX4 hM rfl rfl 4 (by decide) (List.mem_cons_of_mem _ wF_X4_19) rfl dX4_wrong_82 ?_
                    refine lv_bipush (pc := 85) (v := 8) hx hb dX4_wrong_85 (by decide) ?_
                    refine lv_iload_n (pc := 87) hx hb dX4_wrong_87 rfl (lv_at hl 1 rfl) ?_
                    refine lv_imul (pc := 88) hx hb dX4_wrong_88 ?_
                    refine lv_iload_n (pc := 89) hx hb dX4_wrong_89 rfl (lv_at hl 0 rfl) ?_
                    refine lv_iadd (pc := 90) hx hb dX4_wrong_90 ?_
                    refine nf_iald (pc := 91) hC hM 0 rfl rfl (8 * d + j) (nk_8 rfl rfl) (by omega) (by decide) dX4_wrong_91 ?_
                    refine lv_aload_n (pc := 92) hx hb dX4_wrong_92 rfl (lv_at hl 3 rfl) ?_
                    refine lv_iload_n (pc := 93) hx hb dX4_wrong_93 rfl (lv_at hl 1 rfl) ?_
                    refine lv_iconst (pc := 94) (v := 1) hx hb dX4_wrong_94 (by decide) ?_
                    refine lv_iload_n (pc := 95) hx hb dX4_wrong_95 rfl (lv_at hl 0 rfl) ?_
                    refine lv_ishl (pc := 96) hx hb dX4_wrong_96 ?_
                    refine lv_iadd (pc := 97) hx hb dX4_wrong_97 ?_
                    refine lv_iconst (pc := 98) (v := 1) hx hb dX4_wrong_98 (by decide) ?_
                    refine nf_calli (pc := 99) (va_runV (As := [.int ((nI d) + (1 <<< ((nI j) &&& 31))), .int 1]) (rest := [.int (I 24 0 (8 * d + j))]) hC.1 (ct_X4_first) (cwV 2 hC.1.2.2.2.2 (gd_V wM_X4_141 wi_X4_first wsel_X4_first wini_X4 wcode_X4_first) rfl rfl rfl (by decide +kernel) ⟨by decide, by decide⟩) (nf_preV hC hM rfl rfl) rfl rfl hl.1 rfl (lv_room (Nat.le_of_ble_eq_true rfl)) dX4_wrong_99 ⟨Nat.le_refl _, Nat.le_refl _⟩) hM (fun H locs hM => ?_)
                    refine lv_icmp_eq (pc := 102) (tgt := 111) hx hb dX4_wrong_102 (by decide) (fun h11 => ?_) (fun h11 => ?_)
                    · skip
                      refine lv_iload_n (pc := 111) hx hb dX4_wrong_111 rfl (lv_at hl 2 rfl) ?_
                      refine lv_istore_n (pc := 112) (lv' := [(1, .int q), (3, .int (nI j)), (2, .int (nI d)), (0, .ref (ad 20 0))]) hx hb dX4_wrong_112 rfl hl (by decide) rfl (fun ls hl => ?_)
                      refine lv_iinc (pc := 113) (k := 1) (v := nI (j + 1)) (lv' := [(3, .int (nI (j + 1))), (1, .int q), (2, .int (nI d)), (0, .ref (ad 20 0))]) hx hb dX4_wrong_113 hl rfl (nI_1 _) (by decide) rfl (fun ls hl => ?_)
                      refine lv_goto (pc := 116) (tgt := 75) hx hb dX4_wrong_116 (by decide) ?_
                      exact ihloop75 (j + 1) q ls _ _ (by omega) (by omega) (by rw [hg, show 8 - j = (8 - (j + 1)) + 1 by omega, ys_wf]; congr 1; simp [h11]) hM (lv_sub hl [0, 2, 1, 3] rfl)
                    · skip
                      refine lv_iload_n (pc := 105) hx hb dX4_wrong_105 rfl (lv_at hl 2 rfl) ?_
                      refine lv_iconst (pc := 106) (v := 1) hx hb dX4_wrong_106 (by decide) ?_
                      refine lv_iadd (pc := 107) hx hb dX4_wrong_107 ?_
                      refine lv_goto (pc := 108) (tgt := 112) hx hb dX4_wrong_108 (by decide) ?_
                      refine lv_istore_n (pc := 112) (lv' := [(1, .int (q + 1)), (3, .int (nI j)), (2, .int (nI d)), (0, .ref (ad 20 0))]) hx hb dX4_wrong_112 rfl hl (by decide) rfl (fun ls hl => ?_)
                      refine lv_iinc (pc := 113) (k := 1) (v := nI (j + 1)) (lv' := [(3, .int (nI (j + 1))), (1, .int (q + 1)), (2, .int (nI d)), (0, .ref (ad 20 0))]) hx hb dX4_wrong_113 hl rfl (nI_1 _) (by decide) rfl (fun ls hl => ?_)
                      refine lv_goto (pc := 116) (tgt := 75) hx hb dX4_wrong_116 (by decide) ?_
                      exact ihloop75 (j + 1) (q + 1) ls _ _ (by omega) (by omega) (by rw [hg, show 8 - j = (8 - (j + 1)) + 1 by omega, ys_wf]; congr 1; simp [h11]) hM (lv_sub hl [0, 2, 1, 3] rfl)
              exact loop75 _ 0 (k + 1) ls _ _ (Nat.lt_succ_self _) (Nat.zero_le _) (by simp [ys_w1, ys_w2, h3, h9]) hM (lv_sub hl [0, 2, 1, 3] rfl)
            · skip
              refine lv_iload_n (pc := 65) hx hb dX4_wrong_65 rfl (lv_at hl 0 rfl) ?_
              refine lv_iconst (pc := 66) (v := 1) hx hb dX4_wrong_66 (by decide) ?_
              refine lv_iadd (pc := 67) hx hb dX4_wrong_67 ?_
              refine lv_goto (pc := 68) (tgt := 72) hx hb dX4_wrong_68 (by decide) ?_
              refine lv_istore_n (pc := 72) (lv' := [(1, .int ((k + 1) + 1)), (2, .int (nI d)), (0, .ref (ad 20 0))]) hx hb dX4_wrong_72 rfl hl (by decide) rfl (fun ls hl => ?_)
              refine lv_iconst (pc := 73) (v := 0) hx hb dX4_wrong_73 (by decide) ?_
              refine lv_istore_n (pc := 74) (lv' := [(3, .int 0), (1, .int ((k + 1) + 1)), (2, .int (nI d)), (0, .ref (ad 20 0))]) hx hb dX4_wrong_74 rfl hl (by decide) rfl (fun ls hl => ?_)
              have loop75 : ∀ (n : Nat) (j : Nat) (q : Int32) (ls : Array Slot) (H : Heap) (locs : List Loc), 8 - j < n → (j ≤ 8) → (ys_wf I d 8 0 (ys_w2 I d (ys_w1 I d k)) = ys_wf I d (8 - j) j q) → nf_M D vwCl Bs (xS cs nn) ad I J P s.heap H locs → lv_has ls 4 [(3, .int (nI j)), (2, .int (nI d)), (1, .int q), (0, .ref (ad 20 0))] → W p l e (nf_Rm 1 24) s m ([.ref (ad 20 0)] : List Value).toArray below meth c H locs 0 0 Q (F0 m 75 ls []) := by
                intro n
                induction n with
                | zero => exact fun _ _ _ _ _ hmz => absurd hmz (Nat.not_lt_zero _)
                | succ n ihloop75 =>
                  intro j q ls H locs hmz hjn hg hM hl
                  refine lv_iload_n (pc := 75) hx hb dX4_wrong_75 rfl (lv_at hl 0 rfl) ?_
                  refine lv_bipush (pc := 76) (v := nI 8) hx hb dX4_wrong_76 (by decide) ?_
                  refine lv_icmp_ge (pc := 78) (tgt := 119) hx hb dX4_wrong_78 (by decide) (fun hh => ?_) (fun hh => ?_)
                  · have hj12 : 8 ≤ j := (nI_leI (by omega) (by omega)).mp (by exact hh)
                    refine lv_iinc (pc := 119) (k := 1) (v := nI (d + 1)) (lv' := [(2, .int (nI (d + 1))), (3, .int (nI j)), (1, .int q), (0, .ref (ad 20 0))]) hx hb dX4_wrong_119 hl rfl (nI_1 _) (by decide) rfl (fun ls hl => ?_)
                    refine lv_goto (pc := 122) (tgt := 4) hx hb dX4_wrong_122 (by decide) ?_
                    exact ihloop4 (d + 1) q ls _ _ (by omega) (by omega) (by rw [hf, show 256 - d = (256 - (d + 1)) + 1 by omega, ys_wr, if_pos h2, hg, show 8 - j = 0 by omega]; rfl) hM (lv_sub hl [0, 2, 3] rfl)
                  · have hj12 : j < 8 := Nat.lt_of_not_le (fun z => hh (by exact (nI_leI (by omega) (by omega)).mpr z))
                    refine lv_aload_n (pc := 81) hx hb dX4_wrong_81 rfl (lv_at hl 3 rfl) ?_
                    refine nf_getr (pc := 82) hC hinX4 hM rfl rfl 4 (by decide) (List.mem_cons_of_mem _ wF_X4_19) rfl dX4_wrong_82 ?_
                    refine lv_bipush (pc := 85) (v := 8) hx hb dX4_wrong_85 (by decide) ?_
                    refine lv_iload_n (pc := 87) hx hb dX4_wrong_87 rfl (lv_at hl 1 rfl) ?_
                    refine lv_imul (pc := 88) hx hb dX4_wrong_88 ?_
                    refine lv_iload_n (pc := 89) hx hb dX4_wrong_89 rfl (lv_at hl 0 rfl) ?_
                    refine lv_iadd (pc := 90) hx hb dX4_wrong_90 ?_
                    refine nf_iald (pc := 91) hC hM 0 rfl rfl (8 * d + j) (nk_8 rfl rfl) (by omega) (by decide) dX4_wrong_91 ?_
                    refine lv_aload_n (pc := 92) hx hb dX4_wrong_92 rfl (lv_at hl 3 rfl) ?_
                    refine lv_iload_n (pc := 93) hx hb dX4_wrong_93 rfl (lv_at hl 1 rfl) ?_
                    refine lv_iconst (pc := 94) (v := 1) hx hb dX4_wrong_94 (by decide) ?_
                    refine lv_iload_n (pc := 95) hx hb dX4_wrong_95 rfl (lv_at hl 0 rfl) ?_
                    refine lv_ishl (pc := 96) hx hb dX4_wrong_96 ?_
                    refine lv_iadd (pc := 97) hx hb dX4_wrong_97 ?_
                    refine lv_iconst (pc := 98) (v := 1) hx hb dX4_wrong_98 (by decide) ?_
                    refine nf_calli (pc := 99) (va_runV (As := [.int ((nI d) + (1 <<< ((nI j) &&& 31))), .int 1]) (rest := [.int (I 24 0 (8 * d + j))]) hC.1 (ct_X4_first) (cwV 2 hC.1.2.2.2.2 (gd_V wM_X4_141 wi_X4_first wsel_X4_first wini_X4 wcode_X4_first) rfl rfl rfl (by decide +kernel) ⟨by decide, by decide⟩) (nf_preV hC hM rfl rfl) rfl rfl hl.1 rfl (lv_room (Nat.le_of_ble_eq_true rfl)) dX4_wrong_99 ⟨Nat.le_refl _, Nat.le_refl _⟩) hM (fun H locs hM => ?_)
                    refine lv_icmp_eq (pc := 102) (tgt := 111) hx hb dX4_wrong_102 (by decide) (fun h13 => ?_) (fun h13 => ?_)
                    · skip
                      refine lv_iload_n (pc := 111) hx hb dX4_wrong_111 rfl (lv_at hl 2 rfl) ?_
                      refine lv_istore_n (pc := 112) (lv' := [(1, .int q), (3, .int (nI j)), (2, .int (nI d)), (0, .ref (ad 20 0))]) hx hb dX4_wrong_112 rfl hl (by decide) rfl (fun ls hl => ?_)
                      refine lv_iinc (pc := 113) (k := 1) (v := nI (j + 1)) (lv' := [(3, .int (nI (j + 1))), (1, .int q), (2, .int (nI d)), (0, .ref (ad 20 0))]) hx hb dX4_wrong_113 hl rfl (nI_1 _) (by decide) rfl (fun ls hl => ?_)
                      refine lv_goto (pc := 116) (tgt := 75) hx hb dX4_wrong_116 (by decide) ?_
                      exact ihloop75 (j + 1) q ls _ _ (by omega) (by omega) (by rw [hg, show 8 - j = (8 - (j + 1)) + 1 by omega, ys_wf]; congr 1; simp [h13]) hM (lv_sub hl [0, 2, 1, 3] rfl)
                    · skip
                      refine lv_iload_n (pc := 105) hx hb dX4_wrong_105 rfl (lv_at hl 2 rfl) ?_
                      refine lv_iconst (pc := 106) (v := 1) hx hb dX4_wrong_106 (by decide) ?_
                      refine lv_iadd (pc := 107) hx hb dX4_wrong_107 ?_
                      refine lv_goto (pc := 108) (tgt := 112) hx hb dX4_wrong_108 (by decide) ?_
                      refine lv_istore_n (pc := 112) (lv' := [(1, .int (q + 1)), (3, .int (nI j)), (2, .int (nI d)), (0, .ref (ad 20 0))]) hx hb dX4_wrong_112 rfl hl (by decide) rfl (fun ls hl => ?_)
                      refine lv_iinc (pc := 113) (k := 1) (v := nI (j + 1)) (lv' := [(3, .int (nI (j + 1))), (1, .int (q + 1)), (2, .int (nI d)), (0, .ref (ad 20 0))]) hx hb dX4_wrong_113 hl rfl (nI_1 _) (by decide) rfl (fun ls hl => ?_)
                      refine lv_goto (pc := 116) (tgt := 75) hx hb dX4_wrong_116 (by decide) ?_
                      exact ihloop75 (j + 1) (q + 1) ls _ _ (by omega) (by omega) (by rw [hg, show 8 - j = (8 - (j + 1)) + 1 by omega, ys_wf]; congr 1; simp [h13]) hM (lv_sub hl [0, 2, 1, 3] rfl)
              exact loop75 _ 0 ((k + 1) + 1) ls _ _ (Nat.lt_succ_self _) (Nat.zero_le _) (by simp [ys_w1, ys_w2, h3, h9]) hM (lv_sub hl [0, 2, 1, 3] rfl)
  exact loop4 _ 0 0 ls _ _ (Nat.lt_succ_self _) (Nat.zero_le _) rfl hM hl
set_option maxHeartbeats 4000000 in
set_option maxRecDepth 100000 in
theorem ct_X4_misplaced  (hkp : I 20 0 7 = nI kp) (hk2 : kp ≤ 120) : nf_Ti l yX4_misplaced wsX4_misplaced 1 24 D vwCl (xT cs) Bs (xS cs nn) ad [.ref (ad 20 0)] I J P (ys_mp I kp 0 0) I J P := by
  refine nf_enteri (cc := cX4_misplaced) (maxL := 3) (by decide) rfl (Nat.le_of_ble_eq_true rfl) ?_
  intro p e s m below meth c ls Q hC hM hl hret
  have hx := hC.1.1
  have hb := hC.1.2.1
  have hl : lv_has ls 3 [(0, .ref (ad 20 0))] := hl
  have hinX4 : ∀ w ∈ u_ws RX4 TX4 22, w ∈ wsX4_misplaced := fun w h => List.mem_cons_of_mem _ (inX4 w h)
  refine lv_iconst (pc := 0) (v := 0) hx hb dX4_misplaced_0 (by decide) ?_
  refine lv_istore_n (pc := 1) (lv' := [(1, .int 0), (0, .ref (ad 20 0))]) hx hb dX4_misplaced_1 rfl hl (by decide) rfl (fun ls hl => ?_)
  refine lv_iconst (pc := 2) (v := 0) hx hb dX4_misplaced_2 (by decide) ?_
  refine lv_istore_n (pc := 3) (lv' := [(2, .int 0), (1, .int 0), (0, .ref (ad 20 0))]) hx hb dX4_misplaced_3 rfl hl (by decide) rfl (fun ls hl => ?_)
  have loop4 : ∀ (n : Nat) (j : Nat) (k : Int32) (ls : Array Slot) (H : Heap) (locs : List Loc), kp - j < n → (j ≤ kp) → (ys_mp I kp 0 0 = ys_mp I (kp - j) j k) → nf_M D vwCl Bs (xS cs nn) ad I J P s.heap H locs → lv_has ls 3 [(2, .int (nI j)), (1, .int k), (0, .ref (ad 20 0))] → W p l e (nf_Rm 1 24) s m ([.ref (ad 20 0)] : List Value).toArray below meth c H locs 0 0 Q (F0 m 4 ls []) := by
    intro n
    induction n with
    | zero => exact fun _ _ _ _ _ hmz => absurd hmz (Nat.not_lt_zero _)
    | succ n ihloop4 =>
      intro j k ls H locs hmz hjn hf hM hl
      refine lv_iload_n (pc := 4) hx hb dX4_misplaced_4 rfl (lv_at hl 0 rfl) ?_
      refine lv_aload_n (pc := 5) hx hb dX4_misplaced_5 rfl (lv_at hl 2 rfl) ?_
      refine nf_geti (pc := 6) hC hinX4 hM rfl rfl 7 (by decide) (List.mem_cons_of_mem _ wF_X4_96) rfl dX4_misplaced_6 ?_
      refine lv_icmp_ge (pc := 9) (tgt := 46) hx hb dX4_misplaced_9 (by decide) (fun hh => ?_) (fun hh => ?_)
      · have hj1 : kp ≤ j := (nI_leI (by omega) (by omega)).mp (by rw [hkp] at hh; exact hh)
        refine lv_iload_n (pc := 46) hx hb dX4_misplaced_46 rfl (lv_at hl 1 rfl) ?_
        exact hret _ _ _ _ _ _ _ _ (by rw [hf, show kp - j = 0 by omega]; rfl) rfl rfl rfl hM dX4_misplaced_47
      · have hj1 : j < kp := Nat.lt_of_not_le (fun z => hh (by rw [hkp]; exact (nI_leI (by omega) (by omega)).mpr z))
        refine lv_aload_n (pc := 12) hx hb dX4_misplaced_12 rfl (lv_at hl 2 rfl) ?_
        refine lv_aload_n (pc := 13) hx hb dX4_misplaced_13 rfl (lv_at hl 2 rfl) ?_
        refine nf_getr (pc := 14) hC hinX4 hM rfl rfl 9 (by decide) (List.mem_cons_of_mem _ wF_X4_32) rfl dX4_misplaced_14 ?_
        refine lv_iload_n (pc := 17) hx hb dX4_misplaced_17 rfl (lv_at hl 0 rfl) ?_
        refine nf_iald (pc := 18) hC hM 0 rfl rfl j rfl (by omega) (by decide) dX4_misplaced_18 ?_
        refine lv_iconst (pc := 19) (v := 1) hx hb dX4_misplaced_19 (by decide) ?_
        refine nf_calli (pc := 20) (va_runV (As := [.int (I 28 0 j), .int 1]) (rest := []) hC.1 (ct_X4_first) (cwV 2 hC.1.2.2.2.2 (gd_V wM_X4_141 wi_X4_first wsel_X4_first wini_X4 wcode_X4_first) rfl rfl rfl (by decide +kernel) ⟨by decide, by decide⟩) (nf_preV hC hM rfl rfl) rfl rfl hl.1 rfl (lv_room (Nat.le_of_ble_eq_true rfl)) dX4_misplaced_20 ⟨Nat.le_refl _, Nat.le_refl _⟩) hM (fun H locs hM => ?_)
        refine lv_aload_n (pc := 23) hx hb dX4_misplaced_23 rfl (lv_at hl 2 rfl) ?_
        refine nf_getr (pc := 24) hC hinX4 hM rfl rfl 8 (by decide) (List.mem_cons_of_mem _ wF_X4_29) rfl dX4_misplaced_24 ?_
        refine lv_iload_n (pc := 27) hx hb dX4_misplaced_27 rfl (lv_at hl 0 rfl) ?_
        refine nf_iald (pc := 28) hC hM 0 rfl rfl j rfl (by omega) (by decide) dX4_misplaced_28 ?_
        refine lv_icmp_eq (pc := 29) (tgt := 38) hx hb dX4_misplaced_29 (by decide) (fun h2 => ?_) (fun h2 => ?_)
        · skip
          refine lv_iload_n (pc := 38) hx hb dX4_misplaced_38 rfl (lv_at hl 1 rfl) ?_
          refine lv_istore_n (pc := 39) (lv' := [(1, .int k), (2, .int (nI j)), (0, .ref (ad 20 0))]) hx hb dX4_misplaced_39 rfl hl (by decide) rfl (fun ls hl => ?_)
          refine lv_iinc (pc := 40) (k := 1) (v := nI (j + 1)) (lv' := [(2, .int (nI (j + 1))), (1, .int k), (0, .ref (ad 20 0))]) hx hb dX4_misplaced_40 hl rfl (nI_1 _) (by decide) rfl (fun ls hl => ?_)
          refine lv_goto (pc := 43) (tgt := 4) hx hb dX4_misplaced_43 (by decide) ?_
          exact ihloop4 (j + 1) k ls _ _ (by omega) (by omega) (by rw [hf, show kp - j = (kp - (j + 1)) + 1 by omega, ys_mp]; congr 1; simp [h2]) hM hl
        · skip
          refine lv_iload_n (pc := 32) hx hb dX4_misplaced_32 rfl (lv_at hl 1 rfl) ?_
          refine lv_iconst (pc := 33) (v := 1) hx hb dX4_misplaced_33 (by decide) ?_
          refine lv_iadd (pc := 34) hx hb dX4_misplaced_34 ?_
          refine lv_goto (pc := 35) (tgt := 39) hx hb dX4_misplaced_35 (by decide) ?_
          refine lv_istore_n (pc := 39) (lv' := [(1, .int (k + 1)), (2, .int (nI j)), (0, .ref (ad 20 0))]) hx hb dX4_misplaced_39 rfl hl (by decide) rfl (fun ls hl => ?_)
          refine lv_iinc (pc := 40) (k := 1) (v := nI (j + 1)) (lv' := [(2, .int (nI (j + 1))), (1, .int (k + 1)), (0, .ref (ad 20 0))]) hx hb dX4_misplaced_40 hl rfl (nI_1 _) (by decide) rfl (fun ls hl => ?_)
          refine lv_goto (pc := 43) (tgt := 4) hx hb dX4_misplaced_43 (by decide) ?_
          exact ihloop4 (j + 1) (k + 1) ls _ _ (by omega) (by omega) (by rw [hf, show kp - j = (kp - (j + 1)) + 1 by omega, ys_mp]; congr 1; simp [h2]) hM hl
  exact loop4 _ 0 0 ls _ _ (Nat.lt_succ_self _) (Nat.zero_le _) rfl hM hl
end YB
end
section
/-! The model: create, join, stabilise, fix, get. -/
section YC
variable {l : Launch} {D : va_G} {cs : Nat → ClassId} {Bs nn rwn kp : Nat} {ad : nf_A} {I : nf_I} {J : nf_J} {P : nf_P}
set_option maxHeartbeats 4000000 in
set_option maxRecDepth 100000 in
theorem ct_X4_create {id : Int32}  : nf_Ti l yX4_create wsX4_create 1 20 D vwCl (xT cs) Bs (xS cs nn) ad [.ref (ad 20 0), .int id] I J P (nb_I (ys_crB I id)) (ys_crI I id) J P := by
  refine nf_enterz (cc := cX4_create) (maxL := 2) (by decide) rfl (Nat.le_of_ble_eq_true rfl) ?_
  intro p e s m below meth c ls Q hC hM hl hret
  have hx := hC.1.1
  have hb := hC.1.2.1
  have hl : lv_has ls 2 [(0, .ref (ad 20 0)), (1, .int id)] := hl
  have hinX4 : ∀ w ∈ u_ws RX4 TX4 22, w ∈ wsX4_create := fun w h => List.mem_cons_of_mem _ (inX4 w h)
  refine lv_iload_n (pc := 0) hx hb dX4_create_0 rfl (lv_at hl 1 rfl) ?_
  refine nf_calli (pc := 1) (va_runS (As := [.int id]) (rest := []) hC.1 (ct_X4_isId) (cwS 1 hC.1.2.2.2.2 (gd_S wM_X4_67 wst_X4_isId wini_X4 wcode_X4_isId) rfl rfl rfl (by decide +kernel) ⟨by decide, by decide⟩) (nf_preS hC hM) rfl rfl hl.1 rfl (lv_room (Nat.le_of_ble_eq_true rfl)) dX4_create_1 ⟨Nat.le_refl _, Nat.le_refl _⟩) hM (fun H locs hM => ?_)
  refine lv_if_eq (pc := 4) (tgt := 14) hx hb dX4_create_4 (by decide) (fun h1 => ?_) (fun h1 => ?_)
  · have h1 := nb_0 h1
    refine lv_iconst (pc := 14) (v := 0) hx hb dX4_create_14 (by decide) ?_
    exact hret _ _ _ _ _ _ _ _ (by simp [nb_I, ys_crB, h1]) (by simp [ys_crI, h1]) rfl rfl hM dX4_create_15
  · have h1 := nb_1 h1
    refine lv_aload_n (pc := 7) hx hb dX4_create_7 rfl (lv_at hl 0 rfl) ?_
    refine nf_geti (pc := 8) hC hinX4 hM rfl rfl 0 (by decide) (List.mem_cons_of_mem _ wF_X4_83) rfl dX4_create_8 ?_
    refine lv_if_le (pc := 11) (tgt := 16) hx hb dX4_create_11 (by decide) (fun h2 => ?_) (fun h2 => ?_)
    · skip
      obtain ⟨xn, hxn, hxne⟩ := ys_isId_ix h1
      refine lv_aload_n (pc := 16) hx hb dX4_create_16 rfl (lv_at hl 0 rfl) ?_
      refine lv_iconst (pc := 17) (v := 1) hx hb dX4_create_17 (by decide) ?_
      refine nf_puti (pc := 18) hC hinX4 tyX4 tyX4_ok nmX4 hM rfl rfl 0 (by decide) (List.mem_cons_of_mem _ wF_X4_83) rfl (by decide +kernel) rfl dX4_create_18 (fun H locs hM => ?_)
      refine lv_aload_n (pc := 21) hx hb dX4_create_21 rfl (lv_at hl 0 rfl) ?_
      refine nf_getr (pc := 22) hC hinX4 hM rfl rfl 1 (by decide) (List.mem_cons_of_mem _ wF_X4_7) rfl dX4_create_22 ?_
      refine lv_iload_n (pc := 25) hx hb dX4_create_25 rfl (lv_at hl 1 rfl) ?_
      refine lv_iconst (pc := 26) (v := 2) hx hb dX4_create_26 (by decide) ?_
      refine nf_iast (pc := 27) hC hM 0 rfl rfl xn hxne (by omega) (by decide) dX4_create_27 (fun H locs hM => ?_)
      refine lv_aload_n (pc := 28) hx hb dX4_create_28 rfl (lv_at hl 0 rfl) ?_
      refine nf_getr (pc := 29) hC hinX4 hM rfl rfl 2 (by decide) (List.mem_cons_of_mem _ wF_X4_13) rfl dX4_create_29 ?_
      refine lv_iload_n (pc := 32) hx hb dX4_create_32 rfl (lv_at hl 1 rfl) ?_
      refine lv_iload_n (pc := 33) hx hb dX4_create_33 rfl (lv_at hl 1 rfl) ?_
      refine nf_iast (pc := 34) hC hM 0 rfl rfl xn hxne (by omega) (by decide) dX4_create_34 (fun H locs hM => ?_)
      refine lv_iconst (pc := 35) (v := 1) hx hb dX4_create_35 (by decide) ?_
      exact hret _ _ _ _ _ _ _ _ (by simp [nb_I, ys_crB, h1, h2]) (by rw [ys_crI, if_neg (by rw [h1]; decide), if_pos h2, hxne, nI_clamp (by omega)]) rfl rfl hM dX4_create_36
    · skip
      refine lv_iconst (pc := 14) (v := 0) hx hb dX4_create_14 (by decide) ?_
      exact hret _ _ _ _ _ _ _ _ (by simp [nb_I, ys_crB, h1, h2]) (by simp [ys_crI, h1, h2]) rfl rfl hM dX4_create_15
set_option maxHeartbeats 4000000 in
set_option maxRecDepth 100000 in
theorem ct_X4_join {id via : Int32} (hr : I 20 0 13 = nI rwn) (hrw : rwn ≤ 20) : nf_Ti l yX4_join wsX4_join 2 50 D vwCl (xT cs) Bs (xS cs nn) ad [.ref (ad 20 0), .int id, .int via] I J P (nb_I (ys_jnB I id via)) (ys_jnI I rwn id via) (ys_jnJ I J rwn id via) P := by
  refine nf_enterz (cc := cX4_join) (maxL := 3) (by decide) rfl (Nat.le_of_ble_eq_true rfl) ?_
  intro p e s m below meth c ls Q hC hM hl hret
  have hx := hC.1.1
  have hb := hC.1.2.1
  have hl : lv_has ls 3 [(0, .ref (ad 20 0)), (1, .int id), (2, .int via)] := hl
  have hinX4 : ∀ w ∈ u_ws RX4 TX4 22, w ∈ wsX4_join := fun w h => List.mem_cons_of_mem _ (inX4 w h)
  refine lv_iload_n (pc := 0) hx hb dX4_join_0 rfl (lv_at hl 1 rfl) ?_
  refine nf_calli (pc := 1) (va_runS (As := [.int id]) (rest := []) hC.1 (ct_X4_isId) (cwS 1 hC.1.2.2.2.2 (gd_S wM_X4_67 wst_X4_isId wini_X4 wcode_X4_isId) rfl rfl rfl (by decide +kernel) ⟨by decide, by decide⟩) (nf_preS hC hM) rfl rfl hl.1 rfl (lv_room (Nat.le_of_ble_eq_true rfl)) dX4_join_1 ⟨Nat.le_refl _, Nat.le_refl _⟩) hM (fun H locs hM => ?_)
  refine lv_if_eq (pc := 4) (tgt := 42) hx hb dX4_join_4 (by decide) (fun h1 => ?_) (fun h1 => ?_)
  · have h1 := nb_0 h1
    refine lv_iconst (pc := 42) (v := 0) hx hb dX4_join_42 (by decide) ?_
    exact hret _ _ _ _ _ _ _ _ (by simp [nb_I, ys_jnB, h1]) (by rw [ys_jnI, if_pos (by simp [ys_jnB, h1])]) (by rw [ys_jnJ, if_pos (by simp [ys_jnB, h1])]) rfl hM dX4_join_43
  · have h1 := nb_1 h1
    obtain ⟨xn, hxn, hxne⟩ := ys_isId_ix h1
    refine lv_aload_n (pc := 7) hx hb dX4_join_7 rfl (lv_at hl 0 rfl) ?_
    refine nf_getr (pc := 8) hC hinX4 hM rfl rfl 1 (by decide) (List.mem_cons_of_mem _ wF_X4_7) rfl dX4_join_8 ?_
    refine lv_iload_n (pc := 11) hx hb dX4_join_11 rfl (lv_at hl 1 rfl) ?_
    refine nf_iald (pc := 12) hC hM 0 rfl rfl xn hxne (by omega) (by decide) dX4_join_12 ?_
    refine lv_if_ne (pc := 13) (tgt := 42) hx hb dX4_join_13 (by decide) (fun h2 => ?_) (fun h2 => ?_)
    · skip
      refine lv_iconst (pc := 42) (v := 0) hx hb dX4_join_42 (by decide) ?_
      exact hret _ _ _ _ _ _ _ _ (by rw [ys_jnB, if_neg (by rw [h1]; decide), hxne, nI_clamp (by omega)]; simp [nb_I, h2]) (by rw [ys_jnI, if_pos (by rw [ys_jnB, if_neg (by rw [h1]; decide), hxne, nI_clamp (by omega)]; simp [h2])]) (by rw [ys_jnJ, if_pos (by rw [ys_jnB, if_neg (by rw [h1]; decide), hxne, nI_clamp (by omega)]; simp [h2])]) rfl hM dX4_join_43
    · skip
      refine lv_aload_n (pc := 16) hx hb dX4_join_16 rfl (lv_at hl 0 rfl) ?_
      refine lv_iload_n (pc := 17) hx hb dX4_join_17 rfl (lv_at hl 2 rfl) ?_
      refine nf_calli (pc := 18) (va_runV (As := [.int via]) (rest := []) hC.1 (ct_X4_isMember (x := via)) (cwV 1 hC.1.2.2.2.2 (gd_V wM_X4_86 wi_X4_isMember wsel_X4_isMember wini_X4 wcode_X4_isMember) rfl rfl rfl (by decide +kernel) ⟨by decide, by decide⟩) (nf_preV hC hM rfl rfl) rfl rfl hl.1 rfl (lv_room (Nat.le_of_ble_eq_true rfl)) dX4_join_18 ⟨Nat.le_refl _, Nat.le_refl _⟩) hM (fun H locs hM => ?_)
      refine lv_if_eq (pc := 21) (tgt := 42) hx hb dX4_join_21 (by decide) (fun h3 => ?_) (fun h3 => ?_)
      · have h3 := nb_0 h3
        refine lv_iconst (pc := 42) (v := 0) hx hb dX4_join_42 (by decide) ?_
        exact hret _ _ _ _ _ _ _ _ (by rw [ys_jnB, if_neg (by rw [h1]; decide), hxne, nI_clamp (by omega)]; simp [nb_I, h2, h3]) (by rw [ys_jnI, if_pos (by rw [ys_jnB, if_neg (by rw [h1]; decide), hxne, nI_clamp (by omega)]; simp [h2, h3])]) (by rw [ys_jnJ, if_pos (by rw [ys_jnB, if_neg (by rw [h1]; decide), hxne, nI_clamp (by omega)]; simp [h2, h3])]) rfl hM dX4_join_43
      · have h3 := nb_1 h3
        refine lv_aload_n (pc := 24) hx hb dX4_join_24 rfl (lv_at hl 0 rfl) ?_
        refine nf_geti (pc := 25) hC hinX4 hM rfl rfl 0 (by decide) (List.mem_cons_of_mem _ wF_X4_83) rfl dX4_join_25 ?_
        refine lv_bipush (pc := 28) (v := 12) hx hb dX4_join_28 (by decide) ?_
        refine lv_icmp_ge (pc := 30) (tgt := 42) hx hb dX4_join_30 (by decide) (fun h4 => ?_) (fun h4 => ?_)
        · skip
          refine lv_iconst (pc := 42) (v := 0) hx hb dX4_join_42 (by decide) ?_
          exact hret _ _ _ _ _ _ _ _ (by rw [ys_jnB, if_neg (by rw [h1]; decide), hxne, nI_clamp (by omega)]; simp [nb_I, h2, h3, h4]) (by rw [ys_jnI, if_pos (by rw [ys_jnB, if_neg (by rw [h1]; decide), hxne, nI_clamp (by omega)]; simp [h2, h3, h4])]) (by rw [ys_jnJ, if_pos (by rw [ys_jnB, if_neg (by rw [h1]; decide), hxne, nI_clamp (by omega)]; simp [h2, h3, h4])]) rfl hM dX4_join_43
        · skip
          refine lv_aload_n (pc := 33) hx hb dX4_join_33 rfl (lv_at hl 0 rfl) ?_
          refine nf_geti (pc := 34) hC hinX4 hM rfl rfl 13 (by decide) (List.mem_cons_of_mem _ wF_X4_75) rfl dX4_join_34 ?_
          refine lv_bipush (pc := 37) (v := 20) hx hb dX4_join_37 (by decide) ?_
          refine lv_icmp_lt (pc := 39) (tgt := 44) hx hb dX4_join_39 (by decide) (fun h5 => ?_) (fun h5 => ?_)
          · skip
            have hr2 : rwn < 20 := nk_lt hr h5 (by omega) (by decide)
            refine lv_aload_n (pc := 44) hx hb dX4_join_44 rfl (lv_at hl 0 rfl) ?_
            refine lv_dup (pc := 45) hx hb dX4_join_45 rfl ?_
            refine nf_geti (pc := 46) hC hinX4 hM rfl rfl 0 (by decide) (List.mem_cons_of_mem _ wF_X4_83) rfl dX4_join_46 ?_
            refine lv_iconst (pc := 49) (v := 1) hx hb dX4_join_49 (by decide) ?_
            refine lv_iadd (pc := 50) hx hb dX4_join_50 ?_
            refine nf_puti (pc := 51) hC hinX4 tyX4 tyX4_ok nmX4 hM rfl rfl 0 (by decide) (List.mem_cons_of_mem _ wF_X4_83) rfl (by decide +kernel) rfl dX4_join_51 (fun H locs hM => ?_)
            refine lv_aload_n (pc := 54) hx hb dX4_join_54 rfl (lv_at hl 0 rfl) ?_
            refine nf_getr (pc := 55) hC hinX4 hM rfl rfl 1 (by decide) (List.mem_cons_of_mem _ wF_X4_7) rfl dX4_join_55 ?_
            refine lv_iload_n (pc := 58) hx hb dX4_join_58 rfl (lv_at hl 1 rfl) ?_
            refine lv_iconst (pc := 59) (v := 1) hx hb dX4_join_59 (by decide) ?_
            refine nf_iast (pc := 60) hC hM 0 rfl rfl xn hxne (by omega) (by decide) dX4_join_60 (fun H locs hM => ?_)
            refine lv_aload_n (pc := 61) hx hb dX4_join_61 rfl (lv_at hl 0 rfl) ?_
            refine lv_iload_n (pc := 62) hx hb dX4_join_62 rfl (lv_at hl 2 rfl) ?_
            refine lv_iload_n (pc := 63) hx hb dX4_join_63 rfl (lv_at hl 1 rfl) ?_
            refine lv_iconst (pc := 64) (v := 0) hx hb dX4_join_64 (by decide) ?_
            refine lv_iconst (pc := 65) (v := 0) hx hb dX4_join_65 (by decide) ?_
            refine lv_lconst (pc := 66) (v := 0) hx hb dX4_join_66 (by decide) ?_
            refine nf_callv (pc := 67) (va_runV (As := [.int via, .int id, .int 0, .int 0, .long 0]) (rest := []) hC.1 (ct_X4_ask (mb := via) (wd := id) (why := 0) (fi := 0) (v := 0) (rwn := rwn) (by simpa [nf_iu] using hr) (by omega)) (cwV 5 hC.1.2.2.2.2 (gd_V wM_X4_89 wi_X4_ask wsel_X4_ask wini_X4 wcode_X4_ask) rfl rfl rfl (by decide +kernel) ⟨by decide, by decide⟩) (nf_preV hC hM rfl rfl) rfl rfl hl.1 rfl (lv_room (Nat.le_of_ble_eq_true rfl)) dX4_join_67 ⟨Nat.le_refl _, Nat.le_refl _⟩) hM (fun H locs hM => ?_)
            refine lv_aload_n (pc := 70) hx hb dX4_join_70 rfl (lv_at hl 0 rfl) ?_
            refine nf_getr (pc := 71) hC hinX4 hM rfl rfl 19 (by decide) (List.mem_cons_of_mem _ wF_X4_56) rfl dX4_join_71 ?_
            refine lv_aload_n (pc := 74) hx hb dX4_join_74 rfl (lv_at hl 0 rfl) ?_
            refine nf_geti (pc := 75) hC hinX4 hM rfl rfl 13 (by decide) (List.mem_cons_of_mem _ wF_X4_75) rfl dX4_join_75 ?_
            refine lv_iconst (pc := 78) (v := 1) hx hb dX4_join_78 (by decide) ?_
            refine lv_isub (pc := 79) hx hb dX4_join_79 ?_
            refine lv_iload_n (pc := 80) hx hb dX4_join_80 rfl (lv_at hl 1 rfl) ?_
            refine nf_iast (pc := 81) hC hM 0 rfl rfl rwn (by simp [ys_ask, nf_iu, ys_po_row _ _ _ _ (show nf_iu (nf_iu I 20 0 0 (I 20 0 0 + 1)) 21 0 xn 1 20 0 13 = nI rwn by simpa [nf_iu] using hr), nI_pred]) (by omega) (by decide) dX4_join_81 (fun H locs hM => ?_)
            refine lv_iconst (pc := 82) (v := 1) hx hb dX4_join_82 (by decide) ?_
            exact hret _ _ _ _ _ _ _ _ (by rw [ys_jnB, if_neg (by rw [h1]; decide), hxne, nI_clamp (by omega)]; simp [nb_I, h2, h3, h4, h5]) (by rw [ys_jnI, if_neg (by rw [show ys_jnB I id via = true from by rw [ys_jnB, if_neg (by rw [h1]; decide), hxne, nI_clamp (by omega)]; simp [h2, h3, h4, h5]]; decide), ys_jn0, hxne, nI_clamp (by omega)]) (by rw [ys_jnJ, if_neg (by rw [show ys_jnB I id via = true from by rw [ys_jnB, if_neg (by rw [h1]; decide), hxne, nI_clamp (by omega)]; simp [h2, h3, h4, h5]]; decide)]) rfl hM dX4_join_83
          · skip
            refine lv_iconst (pc := 42) (v := 0) hx hb dX4_join_42 (by decide) ?_
            exact hret _ _ _ _ _ _ _ _ (by rw [ys_jnB, if_neg (by rw [h1]; decide), hxne, nI_clamp (by omega)]; simp [nb_I, h2, h3, h4, h5]) (by rw [ys_jnI, if_pos (by rw [ys_jnB, if_neg (by rw [h1]; decide), hxne, nI_clamp (by omega)]; simp [h2, h3, h4, h5])]) (by rw [ys_jnJ, if_pos (by rw [ys_jnB, if_neg (by rw [h1]; decide), hxne, nI_clamp (by omega)]; simp [h2, h3, h4, h5])]) rfl hM dX4_join_43
set_option maxHeartbeats 4000000 in
set_option maxRecDepth 100000 in
theorem ct_X4_stabilise {id : Int32} (hr : I 20 0 13 = nI rwn) (hrw : rwn ≤ 20) : nf_Ti l yX4_stabilise wsX4_stabilise 2 41 D vwCl (xT cs) Bs (xS cs nn) ad [.ref (ad 20 0), .int id] I J P (nb_I (ys_stB I id)) (ys_stI I rwn id) (ys_stJ I J rwn id) P := by
  refine nf_enterz (cc := cX4_stabilise) (maxL := 2) (by decide) rfl (Nat.le_of_ble_eq_true rfl) ?_
  intro p e s m below meth c ls Q hC hM hl hret
  have hx := hC.1.1
  have hb := hC.1.2.1
  have hl : lv_has ls 2 [(0, .ref (ad 20 0)), (1, .int id)] := hl
  have hinX4 : ∀ w ∈ u_ws RX4 TX4 22, w ∈ wsX4_stabilise := fun w h => List.mem_cons_of_mem _ (inX4 w h)
  refine lv_aload_n (pc := 0) hx hb dX4_stabilise_0 rfl (lv_at hl 0 rfl) ?_
  refine lv_iload_n (pc := 1) hx hb dX4_stabilise_1 rfl (lv_at hl 1 rfl) ?_
  refine nf_calli (pc := 2) (va_runV (As := [.int id]) (rest := []) hC.1 (ct_X4_isMember (x := id)) (cwV 1 hC.1.2.2.2.2 (gd_V wM_X4_86 wi_X4_isMember wsel_X4_isMember wini_X4 wcode_X4_isMember) rfl rfl rfl (by decide +kernel) ⟨by decide, by decide⟩) (nf_preV hC hM rfl rfl) rfl rfl hl.1 rfl (lv_room (Nat.le_of_ble_eq_true rfl)) dX4_stabilise_2 ⟨Nat.le_refl _, Nat.le_refl _⟩) hM (fun H locs hM => ?_)
  refine lv_if_eq (pc := 5) (tgt := 17) hx hb dX4_stabilise_5 (by decide) (fun h1 => ?_) (fun h1 => ?_)
  · have h1 := nb_0 h1
    refine lv_iconst (pc := 17) (v := 0) hx hb dX4_stabilise_17 (by decide) ?_
    exact hret _ _ _ _ _ _ _ _ (by simp [nb_I, ys_stB, h1]) (by rw [ys_stI, if_pos (by simp [ys_stB, h1])]) (by rw [ys_stJ, if_pos (by simp [ys_stB, h1])]) rfl hM dX4_stabilise_18
  · have h1 := nb_1 h1
    refine lv_aload_n (pc := 8) hx hb dX4_stabilise_8 rfl (lv_at hl 0 rfl) ?_
    refine nf_geti (pc := 9) hC hinX4 hM rfl rfl 13 (by decide) (List.mem_cons_of_mem _ wF_X4_75) rfl dX4_stabilise_9 ?_
    refine lv_bipush (pc := 12) (v := 20) hx hb dX4_stabilise_12 (by decide) ?_
    refine lv_icmp_lt (pc := 14) (tgt := 19) hx hb dX4_stabilise_14 (by decide) (fun h2 => ?_) (fun h2 => ?_)
    · skip
      have hr2 : rwn < 20 := nk_lt hr h2 (by omega) (by decide)
      obtain ⟨xn, hxn, hxne⟩ := ys_mem_ix h1
      refine lv_aload_n (pc := 19) hx hb dX4_stabilise_19 rfl (lv_at hl 0 rfl) ?_
      refine lv_bipush (pc := 20) (v := 6) hx hb dX4_stabilise_20 (by decide) ?_
      refine lv_aload_n (pc := 22) hx hb dX4_stabilise_22 rfl (lv_at hl 0 rfl) ?_
      refine nf_getr (pc := 23) hC hinX4 hM rfl rfl 2 (by decide) (List.mem_cons_of_mem _ wF_X4_13) rfl dX4_stabilise_23 ?_
      refine lv_iload_n (pc := 26) hx hb dX4_stabilise_26 rfl (lv_at hl 1 rfl) ?_
      refine nf_iald (pc := 27) hC hM 0 rfl rfl xn hxne (by omega) (by decide) dX4_stabilise_27 ?_
      refine lv_iconst (pc := 28) (v := 0) hx hb dX4_stabilise_28 (by decide) ?_
      refine lv_iload_n (pc := 29) hx hb dX4_stabilise_29 rfl (lv_at hl 1 rfl) ?_
      refine nf_callv (pc := 30) (va_runV (As := [.int 6, .int (I 22 0 xn), .int 0, .int id]) (rest := []) hC.1 (ct_X4_post (kd := 6) (tz := (I 22 0 xn)) (ky := 0) (ak := id) (rwn := rwn) hr (by omega)) (cwV 4 hC.1.2.2.2.2 (gd_V wM_X4_79 wi_X4_post wsel_X4_post wini_X4 wcode_X4_post) rfl rfl rfl (by decide +kernel) ⟨by decide, by decide⟩) (nf_preV hC hM rfl rfl) rfl rfl hl.1 rfl (lv_room (Nat.le_of_ble_eq_true rfl)) dX4_stabilise_30 ⟨Nat.le_refl _, Nat.le_refl _⟩) hM (fun H locs hM => ?_)
      refine lv_iconst (pc := 33) (v := 1) hx hb dX4_stabilise_33 (by decide) ?_
      exact hret _ _ _ _ _ _ _ _ (by simp [nb_I, ys_stB, h1, h2]) (by rw [ys_stI, if_neg (by simp [ys_stB, h1, h2]), show I 22 0 id.toNatClampNeg = I 22 0 xn by rw [hxne, nI_clamp (by omega)]]) (by rw [ys_stJ, if_neg (by simp [ys_stB, h1, h2])]) rfl hM dX4_stabilise_34
    · skip
      refine lv_iconst (pc := 17) (v := 0) hx hb dX4_stabilise_17 (by decide) ?_
      exact hret _ _ _ _ _ _ _ _ (by simp [nb_I, ys_stB, h1, h2]) (by rw [ys_stI, if_pos (by simp [ys_stB, h1, h2])]) (by rw [ys_stJ, if_pos (by simp [ys_stB, h1, h2])]) rfl hM dX4_stabilise_18
set_option maxHeartbeats 4000000 in
set_option maxRecDepth 100000 in
theorem ct_X4_fix {id j : Int32} (hr : I 20 0 13 = nI rwn) (hrw : rwn ≤ 20) : nf_Ti l yX4_fix wsX4_fix 2 50 D vwCl (xT cs) Bs (xS cs nn) ad [.ref (ad 20 0), .int id, .int j] I J P (nb_I (ys_fxB I id j)) (ys_fxI I rwn id j) (ys_fxJ I J rwn id j) P := by
  refine nf_enterz (cc := cX4_fix) (maxL := 3) (by decide) rfl (Nat.le_of_ble_eq_true rfl) ?_
  intro p e s m below meth c ls Q hC hM hl hret
  have hx := hC.1.1
  have hb := hC.1.2.1
  have hl : lv_has ls 3 [(0, .ref (ad 20 0)), (1, .int id), (2, .int j)] := hl
  have hinX4 : ∀ w ∈ u_ws RX4 TX4 22, w ∈ wsX4_fix := fun w h => List.mem_cons_of_mem _ (inX4 w h)
  refine lv_aload_n (pc := 0) hx hb dX4_fix_0 rfl (lv_at hl 0 rfl) ?_
  refine lv_iload_n (pc := 1) hx hb dX4_fix_1 rfl (lv_at hl 1 rfl) ?_
  refine nf_calli (pc := 2) (va_runV (As := [.int id]) (rest := []) hC.1 (ct_X4_isMember (x := id)) (cwV 1 hC.1.2.2.2.2 (gd_V wM_X4_86 wi_X4_isMember wsel_X4_isMember wini_X4 wcode_X4_isMember) rfl rfl rfl (by decide +kernel) ⟨by decide, by decide⟩) (nf_preV hC hM rfl rfl) rfl rfl hl.1 rfl (lv_room (Nat.le_of_ble_eq_true rfl)) dX4_fix_2 ⟨Nat.le_refl _, Nat.le_refl _⟩) hM (fun H locs hM => ?_)
  refine lv_if_eq (pc := 5) (tgt := 27) hx hb dX4_fix_5 (by decide) (fun h1 => ?_) (fun h1 => ?_)
  · have h1 := nb_0 h1
    refine lv_iconst (pc := 27) (v := 0) hx hb dX4_fix_27 (by decide) ?_
    exact hret _ _ _ _ _ _ _ _ (by simp [nb_I, ys_fxB, h1]) (by rw [ys_fxI, if_pos (by simp [ys_fxB, h1])]) (by rw [ys_fxJ, if_pos (by simp [ys_fxB, h1])]) rfl hM dX4_fix_28
  · have h1 := nb_1 h1
    refine lv_iload_n (pc := 8) hx hb dX4_fix_8 rfl (lv_at hl 2 rfl) ?_
    refine lv_if_lt (pc := 9) (tgt := 27) hx hb dX4_fix_9 (by decide) (fun h2 => ?_) (fun h2 => ?_)
    · skip
      refine lv_iconst (pc := 27) (v := 0) hx hb dX4_fix_27 (by decide) ?_
      exact hret _ _ _ _ _ _ _ _ (by simp [nb_I, ys_fxB, h1, h2]) (by rw [ys_fxI, if_pos (by simp [ys_fxB, h1, h2])]) (by rw [ys_fxJ, if_pos (by simp [ys_fxB, h1, h2])]) rfl hM dX4_fix_28
    · skip
      refine lv_iload_n (pc := 12) hx hb dX4_fix_12 rfl (lv_at hl 2 rfl) ?_
      refine lv_bipush (pc := 13) (v := 7) hx hb dX4_fix_13 (by decide) ?_
      refine lv_icmp_gt (pc := 15) (tgt := 27) hx hb dX4_fix_15 (by decide) (fun h3 => ?_) (fun h3 => ?_)
      · skip
        refine lv_iconst (pc := 27) (v := 0) hx hb dX4_fix_27 (by decide) ?_
        exact hret _ _ _ _ _ _ _ _ (by simp [nb_I, ys_fxB, h1, h2, h3]) (by rw [ys_fxI, if_pos (by simp [ys_fxB, h1, h2, h3])]) (by rw [ys_fxJ, if_pos (by simp [ys_fxB, h1, h2, h3])]) rfl hM dX4_fix_28
      · skip
        refine lv_aload_n (pc := 18) hx hb dX4_fix_18 rfl (lv_at hl 0 rfl) ?_
        refine nf_geti (pc := 19) hC hinX4 hM rfl rfl 13 (by decide) (List.mem_cons_of_mem _ wF_X4_75) rfl dX4_fix_19 ?_
        refine lv_bipush (pc := 22) (v := 20) hx hb dX4_fix_22 (by decide) ?_
        refine lv_icmp_lt (pc := 24) (tgt := 29) hx hb dX4_fix_24 (by decide) (fun h4 => ?_) (fun h4 => ?_)
        · skip
          have hr2 : rwn < 20 := nk_lt hr h4 (by omega) (by decide)
          refine lv_aload_n (pc := 29) hx hb dX4_fix_29 rfl (lv_at hl 0 rfl) ?_
          refine lv_iload_n (pc := 30) hx hb dX4_fix_30 rfl (lv_at hl 1 rfl) ?_
          refine lv_iload_n (pc := 31) hx hb dX4_fix_31 rfl (lv_at hl 1 rfl) ?_
          refine lv_iconst (pc := 32) (v := 1) hx hb dX4_fix_32 (by decide) ?_
          refine lv_iload_n (pc := 33) hx hb dX4_fix_33 rfl (lv_at hl 2 rfl) ?_
          refine lv_ishl (pc := 34) hx hb dX4_fix_34 ?_
          refine lv_iadd (pc := 35) hx hb dX4_fix_35 ?_
          refine lv_iconst (pc := 36) (v := 1) hx hb dX4_fix_36 (by decide) ?_
          refine lv_iload_n (pc := 37) hx hb dX4_fix_37 rfl (lv_at hl 2 rfl) ?_
          refine lv_lconst (pc := 38) (v := 0) hx hb dX4_fix_38 (by decide) ?_
          refine nf_callv (pc := 39) (va_runV (As := [.int id, .int (id + (1 <<< (j &&& 31))), .int 1, .int j, .long 0]) (rest := []) hC.1 (ct_X4_ask (mb := id) (wd := (id + (1 <<< (j &&& 31)))) (why := 1) (fi := j) (v := 0) (rwn := rwn) hr (by omega)) (cwV 5 hC.1.2.2.2.2 (gd_V wM_X4_89 wi_X4_ask wsel_X4_ask wini_X4 wcode_X4_ask) rfl rfl rfl (by decide +kernel) ⟨by decide, by decide⟩) (nf_preV hC hM rfl rfl) rfl rfl hl.1 rfl (lv_room (Nat.le_of_ble_eq_true rfl)) dX4_fix_39 ⟨Nat.le_refl _, Nat.le_refl _⟩) hM (fun H locs hM => ?_)
          refine lv_iconst (pc := 42) (v := 1) hx hb dX4_fix_42 (by decide) ?_
          exact hret _ _ _ _ _ _ _ _ (by simp [nb_I, ys_fxB, h1, h2, h3, h4]) (by rw [ys_fxI, if_neg (by simp [ys_fxB, h1, h2, h3, h4])]) (by rw [ys_fxJ, if_neg (by simp [ys_fxB, h1, h2, h3, h4])]) rfl hM dX4_fix_43
        · skip
          refine lv_iconst (pc := 27) (v := 0) hx hb dX4_fix_27 (by decide) ?_
          exact hret _ _ _ _ _ _ _ _ (by simp [nb_I, ys_fxB, h1, h2, h3, h4]) (by rw [ys_fxI, if_pos (by simp [ys_fxB, h1, h2, h3, h4])]) (by rw [ys_fxJ, if_pos (by simp [ys_fxB, h1, h2, h3, h4])]) rfl hM dX4_fix_28
set_option maxHeartbeats 4000000 in
set_option maxRecDepth 100000 in
theorem ct_X4_get {id wd : Int32} (hr : I 20 0 13 = nI rwn) (hrw : rwn ≤ 20) : nf_Ti l yX4_get wsX4_get 2 50 D vwCl (xT cs) Bs (xS cs nn) ad [.ref (ad 20 0), .int id, .int wd] I J P (nb_I (ys_gtB I id wd)) (ys_gtI I rwn id wd) (ys_gtJ I J rwn id wd) P := by
  refine nf_enterz (cc := cX4_get) (maxL := 3) (by decide) rfl (Nat.le_of_ble_eq_true rfl) ?_
  intro p e s m below meth c ls Q hC hM hl hret
  have hx := hC.1.1
  have hb := hC.1.2.1
  have hl : lv_has ls 3 [(0, .ref (ad 20 0)), (1, .int id), (2, .int wd)] := hl
  have hinX4 : ∀ w ∈ u_ws RX4 TX4 22, w ∈ wsX4_get := fun w h => List.mem_cons_of_mem _ (inX4 w h)
  refine lv_aload_n (pc := 0) hx hb dX4_get_0 rfl (lv_at hl 0 rfl) ?_
  refine lv_iload_n (pc := 1) hx hb dX4_get_1 rfl (lv_at hl 1 rfl) ?_
  refine nf_calli (pc := 2) (va_runV (As := [.int id]) (rest := []) hC.1 (ct_X4_isMember (x := id)) (cwV 1 hC.1.2.2.2.2 (gd_V wM_X4_86 wi_X4_isMember wsel_X4_isMember wini_X4 wcode_X4_isMember) rfl rfl rfl (by decide +kernel) ⟨by decide, by decide⟩) (nf_preV hC hM rfl rfl) rfl rfl hl.1 rfl (lv_room (Nat.le_of_ble_eq_true rfl)) dX4_get_2 ⟨Nat.le_refl _, Nat.le_refl _⟩) hM (fun H locs hM => ?_)
  refine lv_if_eq (pc := 5) (tgt := 24) hx hb dX4_get_5 (by decide) (fun h1 => ?_) (fun h1 => ?_)
  · have h1 := nb_0 h1
    refine lv_iconst (pc := 24) (v := 0) hx hb dX4_get_24 (by decide) ?_
    exact hret _ _ _ _ _ _ _ _ (by simp [nb_I, ys_gtB, h1]) (by rw [ys_gtI, if_pos (by simp [ys_gtB, h1])]) (by rw [ys_gtJ, if_pos (by simp [ys_gtB, h1])]) rfl hM dX4_get_25
  · have h1 := nb_1 h1
    refine lv_iload_n (pc := 8) hx hb dX4_get_8 rfl (lv_at hl 2 rfl) ?_
    refine nf_calli (pc := 9) (va_runS (As := [.int wd]) (rest := []) hC.1 (ct_X4_isId) (cwS 1 hC.1.2.2.2.2 (gd_S wM_X4_67 wst_X4_isId wini_X4 wcode_X4_isId) rfl rfl rfl (by decide +kernel) ⟨by decide, by decide⟩) (nf_preS hC hM) rfl rfl hl.1 rfl (lv_room (Nat.le_of_ble_eq_true rfl)) dX4_get_9 ⟨Nat.le_refl _, Nat.le_refl _⟩) hM (fun H locs hM => ?_)
    refine lv_if_eq (pc := 12) (tgt := 24) hx hb dX4_get_12 (by decide) (fun h2 => ?_) (fun h2 => ?_)
    · have h2 := nb_0 h2
      refine lv_iconst (pc := 24) (v := 0) hx hb dX4_get_24 (by decide) ?_
      exact hret _ _ _ _ _ _ _ _ (by simp [nb_I, ys_gtB, h1, h2]) (by rw [ys_gtI, if_pos (by simp [ys_gtB, h1, h2])]) (by rw [ys_gtJ, if_pos (by simp [ys_gtB, h1, h2])]) rfl hM dX4_get_25
    · have h2 := nb_1 h2
      refine lv_aload_n (pc := 15) hx hb dX4_get_15 rfl (lv_at hl 0 rfl) ?_
      refine nf_geti (pc := 16) hC hinX4 hM rfl rfl 13 (by decide) (List.mem_cons_of_mem _ wF_X4_75) rfl dX4_get_16 ?_
      refine lv_bipush (pc := 19) (v := 20) hx hb dX4_get_19 (by decide) ?_
      refine lv_icmp_lt (pc := 21) (tgt := 26) hx hb dX4_get_21 (by decide) (fun h3 => ?_) (fun h3 => ?_)
      · skip
        have hr2 : rwn < 20 := nk_lt hr h3 (by omega) (by decide)
        refine lv_aload_n (pc := 26) hx hb dX4_get_26 rfl (lv_at hl 0 rfl) ?_
        refine lv_iload_n (pc := 27) hx hb dX4_get_27 rfl (lv_at hl 1 rfl) ?_
        refine lv_iload_n (pc := 28) hx hb dX4_get_28 rfl (lv_at hl 2 rfl) ?_
        refine lv_iconst (pc := 29) (v := 3) hx hb dX4_get_29 (by decide) ?_
        refine lv_iconst (pc := 30) (v := 0) hx hb dX4_get_30 (by decide) ?_
        refine lv_lconst (pc := 31) (v := 0) hx hb dX4_get_31 (by decide) ?_
        refine nf_callv (pc := 32) (va_runV (As := [.int id, .int wd, .int 3, .int 0, .long 0]) (rest := []) hC.1 (ct_X4_ask (mb := id) (wd := wd) (why := 3) (fi := 0) (v := 0) (rwn := rwn) hr (by omega)) (cwV 5 hC.1.2.2.2.2 (gd_V wM_X4_89 wi_X4_ask wsel_X4_ask wini_X4 wcode_X4_ask) rfl rfl rfl (by decide +kernel) ⟨by decide, by decide⟩) (nf_preV hC hM rfl rfl) rfl rfl hl.1 rfl (lv_room (Nat.le_of_ble_eq_true rfl)) dX4_get_32 ⟨Nat.le_refl _, Nat.le_refl _⟩) hM (fun H locs hM => ?_)
        refine lv_iconst (pc := 35) (v := 1) hx hb dX4_get_35 (by decide) ?_
        exact hret _ _ _ _ _ _ _ _ (by simp [nb_I, ys_gtB, h1, h2, h3]) (by rw [ys_gtI, if_neg (by simp [ys_gtB, h1, h2, h3])]) (by rw [ys_gtJ, if_neg (by simp [ys_gtB, h1, h2, h3])]) rfl hM dX4_get_36
      · skip
        refine lv_iconst (pc := 24) (v := 0) hx hb dX4_get_24 (by decide) ?_
        exact hret _ _ _ _ _ _ _ _ (by simp [nb_I, ys_gtB, h1, h2, h3]) (by rw [ys_gtI, if_pos (by simp [ys_gtB, h1, h2, h3])]) (by rw [ys_gtJ, if_pos (by simp [ys_gtB, h1, h2, h3])]) rfl hM dX4_get_25
end YC
end
section
/-! The model's arrivals, as functions. -/
def ys_onw (I : nf_I) (nd : Nat) : Nat → Nat → Int32 → Int32
  | 0, _, o => o
  | n + 1, j, o => ys_onw I nd n (j + 1) (if I 24 0 (8 * nd + j) = -1 then o else if ys_btw (I 24 0 (8 * nd + j)) (nI nd) (I 33 0 20) = false then o else I 24 0 (8 * nd + j))
def ys_fp (I : nf_I) (nd rwn : Nat) : nf_I :=
  let A := ys_cp I 20 rwn
  let B := nf_iu A 32 0 rwn (ys_onw I nd 8 0 (I 22 0 nd))
  let C := nf_iu B 37 0 rwn (B 37 0 20 + 1)
  nf_iu C 20 0 13 (C 20 0 13 + 1)
def ys_fg (I : nf_I) (rwn : Nat) (K T : Int32) : nf_I :=
  let A := ys_po I rwn K T (I 33 0 20) (I 36 0 20)
  let B := nf_iu A 34 0 rwn (A 34 0 20)
  let C := nf_iu B 35 0 rwn (B 35 0 20)
  nf_iu C 37 0 rwn (C 37 0 20)
def ys_fdI (I : nf_I) (nd rwn : Nat) : nf_I := if ys_past (I 33 0 20) (nI nd) (I 22 0 nd) = false then ys_fp I nd rwn else if I 34 0 20 = 0 then ys_fg I rwn 2 (I 36 0 20) else if I 34 0 20 = 1 then ys_fg I rwn 2 (I 36 0 20) else if I 34 0 20 = 2 then ys_fg I rwn 3 (I 22 0 nd) else ys_fg I rwn 4 (I 22 0 nd)
def ys_fdJ (I : nf_I) (J : nf_J) (nd rwn : Nat) : nf_J := if ys_past (I 33 0 20) (nI nd) (I 22 0 nd) = false then ys_cpJ J 20 rwn else if I 34 0 20 = 0 then nf_ju (ys_poJ J rwn) 38 0 rwn (I 22 0 nd).toInt64 else if I 34 0 20 = 1 then nf_ju (ys_poJ J rwn) 38 0 rwn (I 22 0 nd).toInt64 else nf_ju (ys_poJ J rwn) 38 0 rwn (ys_poJ J rwn 38 0 20)
theorem ys_cp_row {I : nf_I} {rwn f a : Nat} (hr : I 20 0 13 = nI rwn) : ys_cp I f a 20 0 13 = nI rwn := by
  simp [ys_cp, ys_cp1, nf_iu, hr]
def ys_fo1 (I : nf_I) (J : nf_J) (nd : Nat) : nf_I := if I 34 0 20 = 0 then nf_iu (nf_iu I 21 0 nd 2) 22 0 nd (J 38 0 20).toInt32 else nf_iu I 24 0 (8 * nd + (I 35 0 20).toNatClampNeg) (J 38 0 20).toInt32
def ys_foI (I : nf_I) (J : nf_J) (nd : Nat) : nf_I := nf_iu (ys_fo1 I J nd) 26 0 nd (ys_fo1 I J nd 37 0 20)
def ys_feI (I : nf_I) (rwn : Nat) : nf_I := nf_iu (ys_po I rwn 5 (I 36 0 20) 0 0) 37 0 rwn (ys_po I rwn 5 (I 36 0 20) 0 0 37 0 20)
def ys_feJ (I : nf_I) (J : nf_J) (kp nd rwn : Nat) : nf_J := nf_ju (ys_poJ J rwn) 38 0 rwn (if 0 ≤ ys_eat I kp (nI nd) (I 33 0 20) then (ys_po I rwn 5 (I 36 0 20) 0 0 29 0 (ys_eat I kp (nI nd) (I 33 0 20)).toNatClampNeg).toInt64 else 4294967296)
def ys_teS (I : nf_I) (J : nf_J) (nd : Nat) : nf_I := if (J 38 0 20).toInt32 = -1 then I else if ys_btw (J 38 0 20).toInt32 (nI nd) (I 22 0 nd) = false then I else nf_iu I 22 0 nd (J 38 0 20).toInt32
def ys_teI (I : nf_I) (J : nf_J) (nd rwn : Nat) : nf_I := ys_po (ys_teS I J nd) rwn 8 (ys_teS I J nd 22 0 nd) 0 (nI nd)
def ys_kpn (I : nf_I) : Nat := (I 20 0 7).toNatClampNeg
def ys_hs (I : nf_I) (m : Int32) (k : Nat) : nf_I := ys_kp (ys_dr I (ys_kpn I) k) (ys_kpn I - 1) m (I 28 0 k) (I 29 0 k)
def ys_ho (n m : Int32) : Nat → Nat → nf_I → nf_I
  | 0, _, I => I
  | f + 1, k, I => if ys_kpn I ≤ k then I else if I 27 0 k = n then (if ys_past (I 28 0 k) m n = false then ys_ho n m f 0 (ys_hs I m k) else ys_ho n m f (k + 1) I) else ys_ho n m f (k + 1) I
def ys_hok (n m : Int32) : Nat → Nat → nf_I → Prop
  | 0, _, _ => False
  | f + 1, k, I => if ys_kpn I ≤ k then True else if I 27 0 k = n then (if ys_past (I 28 0 k) m n = false then ys_hok n m f 0 (ys_hs I m k) else ys_hok n m f (k + 1) I) else ys_hok n m f (k + 1) I
theorem ys_dr_kp {I : nf_I} {kp q : Nat} (hkp : I 20 0 7 = nI kp) (h : 0 < kp) : ys_dr I kp q 20 0 7 = nI (kp - 1) := by
  unfold ys_dr ys_sh
  rw [if_neg (by omega), nf_iu_s, hkp, show kp = (kp - 1) + 1 by omega, nI_pred]
  rfl
theorem ys_kp_kp {I : nf_I} {kp : Nat} {mb wd v : Int32} (hkp : I 20 0 7 = nI kp) : ys_kp I kp mb wd v 20 0 7 = nI kp ∨ ys_kp I kp mb wd v 20 0 7 = nI (kp + 1) := by
  unfold ys_kp
  split
  · left
    simp [nf_iu, hkp]
  · right
    simp [ys_kp0, nf_iu, hkp, nI_1]
theorem ys_hs_kp {I : nf_I} {kp k : Nat} {m : Int32} (hkp : I 20 0 7 = nI kp) (hk2 : kp ≤ 120) (hk : k < kp) : ∃ kp2, kp2 ≤ 120 ∧ ys_hs I m k 20 0 7 = nI kp2 := by
  have e : ys_kpn I = kp := by unfold ys_kpn; rw [hkp, nI_clamp (by omega)]
  unfold ys_hs
  rw [e]
  rcases ys_kp_kp (mb := m) (wd := I 28 0 k) (v := I 29 0 k) (ys_dr_kp (q := k) hkp (by omega)) with h | h
  · exact ⟨kp - 1, by omega, h⟩
  · exact ⟨kp - 1 + 1, by omega, h⟩
def ys_noI (I : nf_I) (nd F : Nat) : nf_I := if I 23 0 nd = -1 then ys_ho (nI nd) (I 36 0 20) F 0 (nf_iu I 23 0 nd (I 36 0 20)) else if ys_btw (I 36 0 20) (I 23 0 nd) (nI nd) = false then I else ys_ho (nI nd) (I 36 0 20) F 0 (nf_iu I 23 0 nd (I 36 0 20))
end
section
/-! The model: put. -/
section YD
variable {l : Launch} {D : va_G} {cs : Nat → ClassId} {Bs nn rwn kp kc : Nat} {ad : nf_A} {I : nf_I} {J : nf_J} {P : nf_P}
set_option maxHeartbeats 4000000 in
set_option maxRecDepth 100000 in
theorem ct_X4_put {id wd v : Int32} (hr : I 20 0 13 = nI rwn) (hrw : rwn ≤ 20) (hkc : I 20 0 11 = nI kc) (hkc2 : kc ≤ 10) : nf_Ti l yX4_put wsX4_put 2 50 D vwCl (xT cs) Bs (xS cs nn) ad [.ref (ad 20 0), .int id, .int wd, .int v] I J P (nb_I (ys_ptB I kc id wd)) (ys_ptI I kc rwn id wd) (ys_ptJ I J kc rwn id wd v) P := by
  refine nf_enterz (cc := cX4_put) (maxL := 6) (by decide) rfl (Nat.le_of_ble_eq_true rfl) ?_
  intro p e s m below meth c ls Q hC hM hl hret
  have hx := hC.1.1
  have hb := hC.1.2.1
  have hl : lv_has ls 6 [(0, .ref (ad 20 0)), (1, .int id), (2, .int wd), (3, .int v)] := hl
  have hinX4 : ∀ w ∈ u_ws RX4 TX4 22, w ∈ wsX4_put := fun w h => List.mem_cons_of_mem _ (inX4 w h)
  refine lv_aload_n (pc := 0) hx hb dX4_put_0 rfl (lv_at hl 0 rfl) ?_
  refine lv_iload_n (pc := 1) hx hb dX4_put_1 rfl (lv_at hl 1 rfl) ?_
  refine nf_calli (pc := 2) (va_runV (As := [.int id]) (rest := []) hC.1 (ct_X4_isMember (x := id)) (cwV 1 hC.1.2.2.2.2 (gd_V wM_X4_86 wi_X4_isMember wsel_X4_isMember wini_X4 wcode_X4_isMember) rfl rfl rfl (by decide +kernel) ⟨by decide, by decide⟩) (nf_preV hC hM rfl rfl) rfl rfl hl.1 rfl (lv_room (Nat.le_of_ble_eq_true rfl)) dX4_put_2 ⟨Nat.le_refl _, Nat.le_refl _⟩) hM (fun H locs hM => ?_)
  refine lv_if_eq (pc := 5) (tgt := 24) hx hb dX4_put_5 (by decide) (fun h1 => ?_) (fun h1 => ?_)
  · have h1 := nb_0 h1
    refine lv_iconst (pc := 24) (v := 0) hx hb dX4_put_24 (by decide) ?_
    exact hret _ _ _ _ _ _ _ _ (by simp [nb_I, ys_ptB, ys_gtB, h1]) (by rw [ys_ptI, if_pos (by simp [ys_ptB, ys_gtB, h1])]) (by rw [ys_ptJ, if_pos (by simp [ys_ptB, ys_gtB, h1])]) rfl hM dX4_put_25
  · have h1 := nb_1 h1
    refine lv_iload_n (pc := 8) hx hb dX4_put_8 rfl (lv_at hl 2 rfl) ?_
    refine nf_calli (pc := 9) (va_runS (As := [.int wd]) (rest := []) hC.1 (ct_X4_isId) (cwS 1 hC.1.2.2.2.2 (gd_S wM_X4_67 wst_X4_isId wini_X4 wcode_X4_isId) rfl rfl rfl (by decide +kernel) ⟨by decide, by decide⟩) (nf_preS hC hM) rfl rfl hl.1 rfl (lv_room (Nat.le_of_ble_eq_true rfl)) dX4_put_9 ⟨Nat.le_refl _, Nat.le_refl _⟩) hM (fun H locs hM => ?_)
    refine lv_if_eq (pc := 12) (tgt := 24) hx hb dX4_put_12 (by decide) (fun h2 => ?_) (fun h2 => ?_)
    · have h2 := nb_0 h2
      refine lv_iconst (pc := 24) (v := 0) hx hb dX4_put_24 (by decide) ?_
      exact hret _ _ _ _ _ _ _ _ (by simp [nb_I, ys_ptB, ys_gtB, h1, h2]) (by rw [ys_ptI, if_pos (by simp [ys_ptB, ys_gtB, h1, h2])]) (by rw [ys_ptJ, if_pos (by simp [ys_ptB, ys_gtB, h1, h2])]) rfl hM dX4_put_25
    · have h2 := nb_1 h2
      refine lv_aload_n (pc := 15) hx hb dX4_put_15 rfl (lv_at hl 0 rfl) ?_
      refine nf_geti (pc := 16) hC hinX4 hM rfl rfl 13 (by decide) (List.mem_cons_of_mem _ wF_X4_75) rfl dX4_put_16 ?_
      refine lv_bipush (pc := 19) (v := 20) hx hb dX4_put_19 (by decide) ?_
      refine lv_icmp_lt (pc := 21) (tgt := 26) hx hb dX4_put_21 (by decide) (fun h3 => ?_) (fun h3 => ?_)
      · skip
        have hr2 : rwn < 20 := nk_lt hr h3 (by omega) (by decide)
        refine lv_iconst (pc := 26) (v := 0) hx hb dX4_put_26 (by decide) ?_
        refine lv_istore (pc := 27) (lv' := [(4, .int 0), (0, .ref (ad 20 0)), (1, .int id), (2, .int wd), (3, .int v)]) hx hb dX4_put_27 hl (by decide) rfl (fun ls hl => ?_)
        refine lv_iconst (pc := 29) (v := 0) hx hb dX4_put_29 (by decide) ?_
        refine lv_istore (pc := 30) (lv' := [(5, .int 0), (4, .int 0), (0, .ref (ad 20 0)), (1, .int id), (2, .int wd), (3, .int v)]) hx hb dX4_put_30 hl (by decide) rfl (fun ls hl => ?_)
        have loop32 : ∀ (n : Nat) (j : Nat) (o : Int32) (ls : Array Slot) (H : Heap) (locs : List Loc), kc - j < n → (j ≤ kc) → (ys_old I wd kc 0 0 = ys_old I wd (kc - j) j o) → nf_M D vwCl Bs (xS cs nn) ad I J P s.heap H locs → lv_has ls 6 [(5, .int (nI j)), (4, .int o), (0, .ref (ad 20 0)), (1, .int id), (2, .int wd), (3, .int v)] → W p l e (nf_Rm 2 50) s m ([.ref (ad 20 0), .int id, .int wd, .int v] : List Value).toArray below meth c H locs 0 0 Q (F0 m 32 ls []) := by
          intro n
          induction n with
          | zero => exact fun _ _ _ _ _ hmz => absurd hmz (Nat.not_lt_zero _)
          | succ n ihloop32 =>
            intro j o ls H locs hmz hjn hf hM hl
            refine lv_iload (pc := 32) hx hb dX4_put_32 (lv_at hl 0 rfl) ?_
            refine lv_aload_n (pc := 34) hx hb dX4_put_34 rfl (lv_at hl 2 rfl) ?_
            refine nf_geti (pc := 35) hC hinX4 hM rfl rfl 11 (by decide) (List.mem_cons_of_mem _ wF_X4_93) rfl dX4_put_35 ?_
            refine lv_icmp_ge (pc := 38) (tgt := 70) hx hb dX4_put_38 (by decide) (fun hh => ?_) (fun hh => ?_)
            · have hj4 : kc ≤ j := (nI_leI (by omega) (by omega)).mp (by rw [hkc] at hh; exact hh)
              refine lv_iload (pc := 70) hx hb dX4_put_70 (lv_at hl 1 rfl) ?_
              refine lv_if_ne (pc := 72) (tgt := 86) hx hb dX4_put_72 (by decide) (fun h5 => ?_) (fun h5 => ?_)
              · skip
                refine lv_iload (pc := 86) hx hb dX4_put_86 (lv_at hl 1 rfl) ?_
                refine lv_if_ne (pc := 88) (tgt := 111) hx hb dX4_put_88 (by decide) (fun _ => ?_) (fun hh => absurd hh h5)
                refine lv_aload_n (pc := 111) hx hb dX4_put_111 rfl (lv_at hl 2 rfl) ?_
                refine lv_iload_n (pc := 112) hx hb dX4_put_112 rfl (lv_at hl 3 rfl) ?_
                refine lv_iload_n (pc := 113) hx hb dX4_put_113 rfl (lv_at hl 4 rfl) ?_
                refine lv_iconst (pc := 114) (v := 2) hx hb dX4_put_114 (by decide) ?_
                refine lv_iconst (pc := 115) (v := 0) hx hb dX4_put_115 (by decide) ?_
                refine lv_iload_n (pc := 116) hx hb dX4_put_116 rfl (lv_at hl 5 rfl) ?_
                refine lv_i2l (pc := 117) hx hb dX4_put_117 rfl ?_
                refine nf_callv (pc := 118) (va_runV (As := [.int id, .int wd, .int 2, .int 0, .long ((v).toInt64)]) (rest := []) hC.1 (ct_X4_ask (mb := id) (wd := wd) (why := 2) (fi := 0) (v := ((v).toInt64)) (rwn := rwn) (by simpa [nf_iu] using hr) (by omega)) (cwV 5 hC.1.2.2.2.2 (gd_V wM_X4_89 wi_X4_ask wsel_X4_ask wini_X4 wcode_X4_ask) rfl rfl rfl (by decide +kernel) ⟨by decide, by decide⟩) (nf_preV hC hM rfl rfl) rfl rfl hl.1 rfl (lv_room (Nat.le_of_ble_eq_true rfl)) dX4_put_118 ⟨Nat.le_refl _, Nat.le_refl _⟩) hM (fun H locs hM => ?_)
                refine lv_iconst (pc := 121) (v := 1) hx hb dX4_put_121 (by decide) ?_
                exact hret _ _ _ _ _ _ _ _ (by rw [ys_ptB, show ys_gtB I id wd = true by simp [ys_gtB, h1, h2, h3], show ys_old I wd kc 0 0 = o by rw [hf, show kc - j = 0 by omega]; rfl]; simp [nb_I, h5]) (by rw [ys_ptI, if_neg (by rw [ys_ptB, show ys_gtB I id wd = true by simp [ys_gtB, h1, h2, h3], show ys_old I wd kc 0 0 = o by rw [hf, show kc - j = 0 by omega]; rfl]; simp [h5]), show ys_old I wd kc 0 0 = o by rw [hf, show kc - j = 0 by omega]; rfl]; simp [h5] <;> rfl) (by rw [ys_ptJ, if_neg (by rw [ys_ptB, show ys_gtB I id wd = true by simp [ys_gtB, h1, h2, h3], show ys_old I wd kc 0 0 = o by rw [hf, show kc - j = 0 by omega]; rfl]; simp [h5])]) rfl hM dX4_put_122
              · skip
                refine lv_aload_n (pc := 75) hx hb dX4_put_75 rfl (lv_at hl 2 rfl) ?_
                refine nf_geti (pc := 76) hC hinX4 hM rfl rfl 11 (by decide) (List.mem_cons_of_mem _ wF_X4_93) rfl dX4_put_76 ?_
                refine lv_bipush (pc := 79) (v := 10) hx hb dX4_put_79 (by decide) ?_
                refine lv_icmp_lt (pc := 81) (tgt := 86) hx hb dX4_put_81 (by decide) (fun h6 => ?_) (fun h6 => ?_)
                · skip
                  refine lv_iload (pc := 86) hx hb dX4_put_86 (lv_at hl 1 rfl) ?_
                  refine lv_if_ne (pc := 88) (tgt := 111) hx hb dX4_put_88 (by decide) (fun hh => absurd h5 hh) (fun _ => ?_)
                  have hkl : kc < 10 := nk_lt hkc h6 (by omega) (by decide)
                  refine lv_aload_n (pc := 91) hx hb dX4_put_91 rfl (lv_at hl 2 rfl) ?_
                  refine nf_getr (pc := 92) hC hinX4 hM rfl rfl 12 (by decide) (List.mem_cons_of_mem _ wF_X4_38) rfl dX4_put_92 ?_
                  refine lv_aload_n (pc := 95) hx hb dX4_put_95 rfl (lv_at hl 2 rfl) ?_
                  refine nf_geti (pc := 96) hC hinX4 hM rfl rfl 11 (by decide) (List.mem_cons_of_mem _ wF_X4_93) rfl dX4_put_96 ?_
                  refine lv_iload_n (pc := 99) hx hb dX4_put_99 rfl (lv_at hl 4 rfl) ?_
                  refine nf_iast (pc := 100) hC hM 0 rfl rfl kc hkc (by omega) (by decide) dX4_put_100 (fun H locs hM => ?_)
                  refine lv_aload_n (pc := 101) hx hb dX4_put_101 rfl (lv_at hl 2 rfl) ?_
                  refine lv_dup (pc := 102) hx hb dX4_put_102 rfl ?_
                  refine nf_geti (pc := 103) hC hinX4 hM rfl rfl 11 (by decide) (List.mem_cons_of_mem _ wF_X4_93) rfl dX4_put_103 ?_
                  refine lv_iconst (pc := 106) (v := 1) hx hb dX4_put_106 (by decide) ?_
                  refine lv_iadd (pc := 107) hx hb dX4_put_107 ?_
                  refine nf_puti (pc := 108) hC hinX4 tyX4 tyX4_ok nmX4 hM rfl rfl 11 (by decide) (List.mem_cons_of_mem _ wF_X4_93) rfl (by decide +kernel) rfl dX4_put_108 (fun H locs hM => ?_)
                  refine lv_aload_n (pc := 111) hx hb dX4_put_111 rfl (lv_at hl 2 rfl) ?_
                  refine lv_iload_n (pc := 112) hx hb dX4_put_112 rfl (lv_at hl 3 rfl) ?_
                  refine lv_iload_n (pc := 113) hx hb dX4_put_113 rfl (lv_at hl 4 rfl) ?_
                  refine lv_iconst (pc := 114) (v := 2) hx hb dX4_put_114 (by decide) ?_
                  refine lv_iconst (pc := 115) (v := 0) hx hb dX4_put_115 (by decide) ?_
                  refine lv_iload_n (pc := 116) hx hb dX4_put_116 rfl (lv_at hl 5 rfl) ?_
                  refine lv_i2l (pc := 117) hx hb dX4_put_117 rfl ?_
                  refine nf_callv (pc := 118) (va_runV (As := [.int id, .int wd, .int 2, .int 0, .long ((v).toInt64)]) (rest := []) hC.1 (ct_X4_ask (mb := id) (wd := wd) (why := 2) (fi := 0) (v := ((v).toInt64)) (rwn := rwn) (by simpa [nf_iu] using hr) (by omega)) (cwV 5 hC.1.2.2.2.2 (gd_V wM_X4_89 wi_X4_ask wsel_X4_ask wini_X4 wcode_X4_ask) rfl rfl rfl (by decide +kernel) ⟨by decide, by decide⟩) (nf_preV hC hM rfl rfl) rfl rfl hl.1 rfl (lv_room (Nat.le_of_ble_eq_true rfl)) dX4_put_118 ⟨Nat.le_refl _, Nat.le_refl _⟩) hM (fun H locs hM => ?_)
                  refine lv_iconst (pc := 121) (v := 1) hx hb dX4_put_121 (by decide) ?_
                  exact hret _ _ _ _ _ _ _ _ (by rw [ys_ptB, show ys_gtB I id wd = true by simp [ys_gtB, h1, h2, h3], show ys_old I wd kc 0 0 = o by rw [hf, show kc - j = 0 by omega]; rfl]; simp [nb_I, h5, h6]) (by rw [ys_ptI, if_neg (by rw [ys_ptB, show ys_gtB I id wd = true by simp [ys_gtB, h1, h2, h3], show ys_old I wd kc 0 0 = o by rw [hf, show kc - j = 0 by omega]; rfl]; simp [h5, h6]), show ys_old I wd kc 0 0 = o by rw [hf, show kc - j = 0 by omega]; rfl]; simp [h5, h6] <;> rfl) (by rw [ys_ptJ, if_neg (by rw [ys_ptB, show ys_gtB I id wd = true by simp [ys_gtB, h1, h2, h3], show ys_old I wd kc 0 0 = o by rw [hf, show kc - j = 0 by omega]; rfl]; simp [h5, h6])]) rfl hM dX4_put_122
                · skip
                  refine lv_iconst (pc := 84) (v := 0) hx hb dX4_put_84 (by decide) ?_
                  exact hret _ _ _ _ _ _ _ _ (by rw [ys_ptB, show ys_gtB I id wd = true by simp [ys_gtB, h1, h2, h3], show ys_old I wd kc 0 0 = o by rw [hf, show kc - j = 0 by omega]; rfl]; simp [nb_I, h5, h6]) (by rw [ys_ptI, if_pos (by rw [ys_ptB, show ys_gtB I id wd = true by simp [ys_gtB, h1, h2, h3], show ys_old I wd kc 0 0 = o by rw [hf, show kc - j = 0 by omega]; rfl]; simp [h5, h6])]) (by rw [ys_ptJ, if_pos (by rw [ys_ptB, show ys_gtB I id wd = true by simp [ys_gtB, h1, h2, h3], show ys_old I wd kc 0 0 = o by rw [hf, show kc - j = 0 by omega]; rfl]; simp [h5, h6])]) rfl hM dX4_put_85
            · have hj4 : j < kc := Nat.lt_of_not_le (fun z => hh (by rw [hkc]; exact (nI_leI (by omega) (by omega)).mpr z))
              refine lv_iload (pc := 41) hx hb dX4_put_41 (lv_at hl 1 rfl) ?_
              refine lv_if_ne (pc := 43) (tgt := 57) hx hb dX4_put_43 (by decide) (fun h7 => ?_) (fun h7 => ?_)
              · skip
                refine lv_iconst (pc := 57) (v := 1) hx hb dX4_put_57 (by decide) ?_
                refine lv_goto (pc := 58) (tgt := 62) hx hb dX4_put_58 (by decide) ?_
                refine lv_istore (pc := 62) (lv' := [(4, .int 1), (5, .int (nI j)), (0, .ref (ad 20 0)), (1, .int id), (2, .int wd), (3, .int v)]) hx hb dX4_put_62 hl (by decide) rfl (fun ls hl => ?_)
                refine lv_iinc (pc := 64) (k := 1) (v := nI (j + 1)) (lv' := [(5, .int (nI (j + 1))), (4, .int 1), (0, .ref (ad 20 0)), (1, .int id), (2, .int wd), (3, .int v)]) hx hb dX4_put_64 hl rfl (nI_1 _) (by decide) rfl (fun ls hl => ?_)
                refine lv_goto (pc := 67) (tgt := 32) hx hb dX4_put_67 (by decide) ?_
                exact ihloop32 (j + 1) 1 ls _ _ (by omega) (by omega) (by rw [hf, show kc - j = (kc - (j + 1)) + 1 by omega, ys_old]; congr 1; simp [h7]) hM hl
              · skip
                refine lv_aload_n (pc := 46) hx hb dX4_put_46 rfl (lv_at hl 2 rfl) ?_
                refine nf_getr (pc := 47) hC hinX4 hM rfl rfl 12 (by decide) (List.mem_cons_of_mem _ wF_X4_38) rfl dX4_put_47 ?_
                refine lv_iload (pc := 50) hx hb dX4_put_50 (lv_at hl 0 rfl) ?_
                refine nf_iald (pc := 52) hC hM 0 rfl rfl j rfl (by omega) (by decide) dX4_put_52 ?_
                refine lv_iload_n (pc := 53) hx hb dX4_put_53 rfl (lv_at hl 4 rfl) ?_
                refine lv_icmp_ne (pc := 54) (tgt := 61) hx hb dX4_put_54 (by decide) (fun h8 => ?_) (fun h8 => ?_)
                · skip
                  refine lv_iconst (pc := 61) (v := 0) hx hb dX4_put_61 (by decide) ?_
                  refine lv_istore (pc := 62) (lv' := [(4, .int 0), (5, .int (nI j)), (0, .ref (ad 20 0)), (1, .int id), (2, .int wd), (3, .int v)]) hx hb dX4_put_62 hl (by decide) rfl (fun ls hl => ?_)
                  refine lv_iinc (pc := 64) (k := 1) (v := nI (j + 1)) (lv' := [(5, .int (nI (j + 1))), (4, .int 0), (0, .ref (ad 20 0)), (1, .int id), (2, .int wd), (3, .int v)]) hx hb dX4_put_64 hl rfl (nI_1 _) (by decide) rfl (fun ls hl => ?_)
                  refine lv_goto (pc := 67) (tgt := 32) hx hb dX4_put_67 (by decide) ?_
                  exact ihloop32 (j + 1) 0 ls _ _ (by omega) (by omega) (by rw [hf, show kc - j = (kc - (j + 1)) + 1 by omega, ys_old]; congr 1; simp [h7, h8]) hM hl
                · skip
                  refine lv_iconst (pc := 57) (v := 1) hx hb dX4_put_57 (by decide) ?_
                  refine lv_goto (pc := 58) (tgt := 62) hx hb dX4_put_58 (by decide) ?_
                  refine lv_istore (pc := 62) (lv' := [(4, .int 1), (5, .int (nI j)), (0, .ref (ad 20 0)), (1, .int id), (2, .int wd), (3, .int v)]) hx hb dX4_put_62 hl (by decide) rfl (fun ls hl => ?_)
                  refine lv_iinc (pc := 64) (k := 1) (v := nI (j + 1)) (lv' := [(5, .int (nI (j + 1))), (4, .int 1), (0, .ref (ad 20 0)), (1, .int id), (2, .int wd), (3, .int v)]) hx hb dX4_put_64 hl rfl (nI_1 _) (by decide) rfl (fun ls hl => ?_)
                  refine lv_goto (pc := 67) (tgt := 32) hx hb dX4_put_67 (by decide) ?_
                  exact ihloop32 (j + 1) 1 ls _ _ (by omega) (by omega) (by rw [hf, show kc - j = (kc - (j + 1)) + 1 by omega, ys_old]; congr 1; simp [h7, h8]) hM hl
        exact loop32 _ 0 0 ls _ _ (Nat.lt_succ_self _) (Nat.zero_le _) rfl hM hl
      · skip
        refine lv_iconst (pc := 24) (v := 0) hx hb dX4_put_24 (by decide) ?_
        exact hret _ _ _ _ _ _ _ _ (by simp [nb_I, ys_ptB, ys_gtB, h1, h2, h3]) (by rw [ys_ptI, if_pos (by simp [ys_ptB, ys_gtB, h1, h2, h3])]) (by rw [ys_ptJ, if_pos (by simp [ys_ptB, ys_gtB, h1, h2, h3])]) rfl hM dX4_put_25
end YD
end
section
/-! The model: find. -/
section YE
variable {l : Launch} {D : va_G} {cs : Nat → ClassId} {Bs nn rwn kp : Nat} {ad : nf_A} {I : nf_I} {J : nf_J} {P : nf_P}
set_option maxHeartbeats 4000000 in
set_option maxRecDepth 100000 in
theorem ct_X4_find {nd : Nat} (hr : I 20 0 13 = nI rwn) (hrw : rwn < 20) (hnd : nd < 256) : nf_Tv l yX4_find wsX4_find 2 46 D vwCl (xT cs) Bs (xS cs nn) ad [.ref (ad 20 0), .int (nI nd)] I J P (ys_fdI I nd rwn) (ys_fdJ I J nd rwn) P := by
  refine nf_enterv (cc := cX4_find) (maxL := 6) (by decide) rfl (Nat.le_of_ble_eq_true rfl) ?_
  intro p e s m below meth c ls Q hC hM hl hret
  have hx := hC.1.1
  have hb := hC.1.2.1
  have hl : lv_has ls 6 [(0, .ref (ad 20 0)), (1, .int (nI nd))] := hl
  have hinX4 : ∀ w ∈ u_ws RX4 TX4 22, w ∈ wsX4_find := fun w h => List.mem_cons_of_mem _ (inX4 w h)
  refine lv_aload_n (pc := 0) hx hb dX4_find_0 rfl (lv_at hl 0 rfl) ?_
  refine nf_getr (pc := 1) hC hinX4 hM rfl rfl 2 (by decide) (List.mem_cons_of_mem _ wF_X4_13) rfl dX4_find_1 ?_
  refine lv_iload_n (pc := 4) hx hb dX4_find_4 rfl (lv_at hl 1 rfl) ?_
  refine nf_iald (pc := 5) hC hM 0 rfl rfl nd rfl (by omega) (by decide) dX4_find_5 ?_
  refine lv_istore_n (pc := 6) (lv' := [(2, .int (I 22 0 nd)), (0, .ref (ad 20 0)), (1, .int (nI nd))]) hx hb dX4_find_6 rfl hl (by decide) rfl (fun ls hl => ?_)
  refine lv_aload_n (pc := 7) hx hb dX4_find_7 rfl (lv_at hl 1 rfl) ?_
  refine nf_getr (pc := 8) hC hinX4 hM rfl rfl 16 (by decide) (List.mem_cons_of_mem _ wF_X4_47) rfl dX4_find_8 ?_
  refine lv_bipush (pc := 11) (v := 20) hx hb dX4_find_11 (by decide) ?_
  refine nf_iald (pc := 13) hC hM 0 rfl rfl 20 rfl (by omega) (by decide) dX4_find_13 ?_
  refine lv_iload_n (pc := 14) hx hb dX4_find_14 rfl (lv_at hl 2 rfl) ?_
  refine lv_iload_n (pc := 15) hx hb dX4_find_15 rfl (lv_at hl 0 rfl) ?_
  refine nf_calli (pc := 16) (va_runS (As := [.int (I 33 0 20), .int (nI nd), .int (I 22 0 nd)]) (rest := []) hC.1 (ct_X4_past) (cwS 3 hC.1.2.2.2.2 (gd_S wM_X4_71 wst_X4_past wini_X4 wcode_X4_past) rfl rfl rfl (by decide +kernel) ⟨by decide, by decide⟩) (nf_preS hC hM) rfl rfl hl.1 rfl (lv_room (Nat.le_of_ble_eq_true rfl)) dX4_find_16 ⟨Nat.le_refl _, Nat.le_refl _⟩) hM (fun H locs hM => ?_)
  refine lv_if_ne (pc := 19) (tgt := 132) hx hb dX4_find_19 (by decide) (fun h1 => ?_) (fun h1 => ?_)
  · have h1 := nb_1 h1
    refine lv_aload_n (pc := 132) hx hb dX4_find_132 rfl (lv_at hl 1 rfl) ?_
    refine nf_getr (pc := 133) hC hinX4 hM rfl rfl 17 (by decide) (List.mem_cons_of_mem _ wF_X4_50) rfl dX4_find_133 ?_
    refine lv_bipush (pc := 136) (v := 20) hx hb dX4_find_136 (by decide) ?_
    refine nf_iald (pc := 138) hC hM 0 rfl rfl 20 rfl (by omega) (by decide) dX4_find_138 ?_
    refine lv_if_eq (pc := 139) (tgt := 153) hx hb dX4_find_139 (by decide) (fun h2 => ?_) (fun h2 => ?_)
    · skip
      refine lv_iconst (pc := 153) (v := 1) hx hb dX4_find_153 (by decide) ?_
      refine lv_goto (pc := 154) (tgt := 158) hx hb dX4_find_154 (by decide) ?_
      refine lv_istore_n (pc := 158) (lv' := [(3, .int 1), (2, .int (I 22 0 nd)), (0, .ref (ad 20 0)), (1, .int (nI nd))]) hx hb dX4_find_158 rfl hl (by decide) rfl (fun ls hl => ?_)
      refine lv_aload_n (pc := 159) hx hb dX4_find_159 rfl (lv_at hl 2 rfl) ?_
      refine lv_iload_n (pc := 160) hx hb dX4_find_160 rfl (lv_at hl 0 rfl) ?_
      refine lv_if_eq (pc := 161) (tgt := 168) hx hb dX4_find_161 (by decide) (fun hh => absurd hh (by decide)) (fun _ => ?_)
      refine lv_iconst (pc := 164) (v := 2) hx hb dX4_find_164 (by decide) ?_
      refine lv_goto (pc := 165) (tgt := 184) hx hb dX4_find_165 (by decide) ?_
      refine lv_iload_n (pc := 184) hx hb dX4_find_184 rfl (lv_at hl 0 rfl) ?_
      refine lv_if_eq (pc := 185) (tgt := 198) hx hb dX4_find_185 (by decide) (fun hh => absurd hh (by decide)) (fun _ => ?_)
      refine lv_aload_n (pc := 188) hx hb dX4_find_188 rfl (lv_at hl 2 rfl) ?_
      refine nf_getr (pc := 189) hC hinX4 hM rfl rfl 19 (by decide) (List.mem_cons_of_mem _ wF_X4_56) rfl dX4_find_189 ?_
      refine lv_bipush (pc := 192) (v := 20) hx hb dX4_find_192 (by decide) ?_
      refine nf_iald (pc := 194) hC hM 0 rfl rfl 20 rfl (by omega) (by decide) dX4_find_194 ?_
      refine lv_goto (pc := 195) (tgt := 199) hx hb dX4_find_195 (by decide) ?_
      refine lv_aload_n (pc := 199) hx hb dX4_find_199 rfl (lv_at hl 2 rfl) ?_
      refine nf_getr (pc := 200) hC hinX4 hM rfl rfl 16 (by decide) (List.mem_cons_of_mem _ wF_X4_47) rfl dX4_find_200 ?_
      refine lv_bipush (pc := 203) (v := 20) hx hb dX4_find_203 (by decide) ?_
      refine nf_iald (pc := 205) hC hM 0 rfl rfl 20 rfl (by omega) (by decide) dX4_find_205 ?_
      refine lv_aload_n (pc := 206) hx hb dX4_find_206 rfl (lv_at hl 2 rfl) ?_
      refine nf_getr (pc := 207) hC hinX4 hM rfl rfl 19 (by decide) (List.mem_cons_of_mem _ wF_X4_56) rfl dX4_find_207 ?_
      refine lv_bipush (pc := 210) (v := 20) hx hb dX4_find_210 (by decide) ?_
      refine nf_iald (pc := 212) hC hM 0 rfl rfl 20 rfl (by omega) (by decide) dX4_find_212 ?_
      refine nf_callv (pc := 213) (va_runV (As := [.int 2, .int (I 36 0 20), .int (I 33 0 20), .int (I 36 0 20)]) (rest := []) hC.1 (ct_X4_post (kd := 2) (tz := (I 36 0 20)) (ky := (I 33 0 20)) (ak := (I 36 0 20)) (rwn := rwn) hr (by omega)) (cwV 4 hC.1.2.2.2.2 (gd_V wM_X4_79 wi_X4_post wsel_X4_post wini_X4 wcode_X4_post) rfl rfl rfl (by decide +kernel) ⟨by decide, by decide⟩) (nf_preV hC hM rfl rfl) rfl rfl hl.1 rfl (lv_room (Nat.le_of_ble_eq_true rfl)) dX4_find_213 ⟨Nat.le_refl _, Nat.le_refl _⟩) hM (fun H locs hM => ?_)
      refine lv_aload_n (pc := 216) hx hb dX4_find_216 rfl (lv_at hl 2 rfl) ?_
      refine nf_getr (pc := 217) hC hinX4 hM rfl rfl 17 (by decide) (List.mem_cons_of_mem _ wF_X4_50) rfl dX4_find_217 ?_
      refine lv_aload_n (pc := 220) hx hb dX4_find_220 rfl (lv_at hl 2 rfl) ?_
      refine nf_geti (pc := 221) hC hinX4 hM rfl rfl 13 (by decide) (List.mem_cons_of_mem _ wF_X4_75) rfl dX4_find_221 ?_
      refine lv_iconst (pc := 224) (v := 1) hx hb dX4_find_224 (by decide) ?_
      refine lv_isub (pc := 225) hx hb dX4_find_225 ?_
      refine lv_aload_n (pc := 226) hx hb dX4_find_226 rfl (lv_at hl 2 rfl) ?_
      refine nf_getr (pc := 227) hC hinX4 hM rfl rfl 17 (by decide) (List.mem_cons_of_mem _ wF_X4_50) rfl dX4_find_227 ?_
      refine lv_bipush (pc := 230) (v := 20) hx hb dX4_find_230 (by decide) ?_
      refine nf_iald (pc := 232) hC hM 0 rfl rfl 20 rfl (by omega) (by decide) dX4_find_232 ?_
      refine nf_iast (pc := 233) hC hM 0 rfl rfl rwn (by simp [nf_iu, ys_po_row _ _ _ _ hr, nI_pred]) (by omega) (by decide) dX4_find_233 (fun H locs hM => ?_)
      refine lv_aload_n (pc := 234) hx hb dX4_find_234 rfl (lv_at hl 2 rfl) ?_
      refine nf_getr (pc := 235) hC hinX4 hM rfl rfl 18 (by decide) (List.mem_cons_of_mem _ wF_X4_53) rfl dX4_find_235 ?_
      refine lv_aload_n (pc := 238) hx hb dX4_find_238 rfl (lv_at hl 2 rfl) ?_
      refine nf_geti (pc := 239) hC hinX4 hM rfl rfl 13 (by decide) (List.mem_cons_of_mem _ wF_X4_75) rfl dX4_find_239 ?_
      refine lv_iconst (pc := 242) (v := 1) hx hb dX4_find_242 (by decide) ?_
      refine lv_isub (pc := 243) hx hb dX4_find_243 ?_
      refine lv_aload_n (pc := 244) hx hb dX4_find_244 rfl (lv_at hl 2 rfl) ?_
      refine nf_getr (pc := 245) hC hinX4 hM rfl rfl 18 (by decide) (List.mem_cons_of_mem _ wF_X4_53) rfl dX4_find_245 ?_
      refine lv_bipush (pc := 248) (v := 20) hx hb dX4_find_248 (by decide) ?_
      refine nf_iald (pc := 250) hC hM 0 rfl rfl 20 rfl (by omega) (by decide) dX4_find_250 ?_
      refine nf_iast (pc := 251) hC hM 0 rfl rfl rwn (by simp [nf_iu, ys_po_row _ _ _ _ hr, nI_pred]) (by omega) (by decide) dX4_find_251 (fun H locs hM => ?_)
      refine lv_aload_n (pc := 252) hx hb dX4_find_252 rfl (lv_at hl 2 rfl) ?_
      refine nf_getr (pc := 253) hC hinX4 hM rfl rfl 20 (by decide) (List.mem_cons_of_mem _ wF_X4_59) rfl dX4_find_253 ?_
      refine lv_aload_n (pc := 256) hx hb dX4_find_256 rfl (lv_at hl 2 rfl) ?_
      refine nf_geti (pc := 257) hC hinX4 hM rfl rfl 13 (by decide) (List.mem_cons_of_mem _ wF_X4_75) rfl dX4_find_257 ?_
      refine lv_iconst (pc := 260) (v := 1) hx hb dX4_find_260 (by decide) ?_
      refine lv_isub (pc := 261) hx hb dX4_find_261 ?_
      refine lv_aload_n (pc := 262) hx hb dX4_find_262 rfl (lv_at hl 2 rfl) ?_
      refine nf_getr (pc := 263) hC hinX4 hM rfl rfl 20 (by decide) (List.mem_cons_of_mem _ wF_X4_59) rfl dX4_find_263 ?_
      refine lv_bipush (pc := 266) (v := 20) hx hb dX4_find_266 (by decide) ?_
      refine nf_iald (pc := 268) hC hM 0 rfl rfl 20 rfl (by omega) (by decide) dX4_find_268 ?_
      refine nf_iast (pc := 269) hC hM 0 rfl rfl rwn (by simp [nf_iu, ys_po_row _ _ _ _ hr, nI_pred]) (by omega) (by decide) dX4_find_269 (fun H locs hM => ?_)
      refine lv_aload_n (pc := 270) hx hb dX4_find_270 rfl (lv_at hl 2 rfl) ?_
      refine nf_getr (pc := 271) hC hinX4 hM rfl rfl 21 (by decide) (List.mem_cons_of_mem _ wF_X4_62) rfl dX4_find_271 ?_
      refine lv_aload_n (pc := 274) hx hb dX4_find_274 rfl (lv_at hl 2 rfl) ?_
      refine nf_geti (pc := 275) hC hinX4 hM rfl rfl 13 (by decide) (List.mem_cons_of_mem _ wF_X4_75) rfl dX4_find_275 ?_
      refine lv_iconst (pc := 278) (v := 1) hx hb dX4_find_278 (by decide) ?_
      refine lv_isub (pc := 279) hx hb dX4_find_279 ?_
      refine lv_iload_n (pc := 280) hx hb dX4_find_280 rfl (lv_at hl 0 rfl) ?_
      refine lv_if_eq (pc := 281) (tgt := 289) hx hb dX4_find_281 (by decide) (fun hh => absurd hh (by decide)) (fun _ => ?_)
      refine lv_iload_n (pc := 284) hx hb dX4_find_284 rfl (lv_at hl 1 rfl) ?_
      refine lv_i2l (pc := 285) hx hb dX4_find_285 rfl ?_
      refine lv_goto (pc := 286) (tgt := 296) hx hb dX4_find_286 (by decide) ?_
      refine nf_last (pc := 296) hC hM 1 rfl rfl rwn (by simp [nf_iu, ys_po_row _ _ _ _ hr, nI_pred]) (by omega) (by decide) dX4_find_296 (fun H locs hM => ?_)
      exact hret _ _ _ _ _ _ _ (by simp [ys_fdI, h1, h2] <;> rfl) (by simp [ys_fdJ, h1, h2] <;> rfl) rfl hM dX4_find_297
    · skip
      refine lv_aload_n (pc := 142) hx hb dX4_find_142 rfl (lv_at hl 1 rfl) ?_
      refine nf_getr (pc := 143) hC hinX4 hM rfl rfl 17 (by decide) (List.mem_cons_of_mem _ wF_X4_50) rfl dX4_find_143 ?_
      refine lv_bipush (pc := 146) (v := 20) hx hb dX4_find_146 (by decide) ?_
      refine nf_iald (pc := 148) hC hM 0 rfl rfl 20 rfl (by omega) (by decide) dX4_find_148 ?_
      refine lv_iconst (pc := 149) (v := 1) hx hb dX4_find_149 (by decide) ?_
      refine lv_icmp_ne (pc := 150) (tgt := 157) hx hb dX4_find_150 (by decide) (fun h3 => ?_) (fun h3 => ?_)
      · skip
        refine lv_iconst (pc := 157) (v := 0) hx hb dX4_find_157 (by decide) ?_
        refine lv_istore_n (pc := 158) (lv' := [(3, .int 0), (2, .int (I 22 0 nd)), (0, .ref (ad 20 0)), (1, .int (nI nd))]) hx hb dX4_find_158 rfl hl (by decide) rfl (fun ls hl => ?_)
        refine lv_aload_n (pc := 159) hx hb dX4_find_159 rfl (lv_at hl 2 rfl) ?_
        refine lv_iload_n (pc := 160) hx hb dX4_find_160 rfl (lv_at hl 0 rfl) ?_
        refine lv_if_eq (pc := 161) (tgt := 168) hx hb dX4_find_161 (by decide) (fun _ => ?_) (fun hh => absurd (by decide) hh)
        refine lv_aload_n (pc := 168) hx hb dX4_find_168 rfl (lv_at hl 2 rfl) ?_
        refine nf_getr (pc := 169) hC hinX4 hM rfl rfl 17 (by decide) (List.mem_cons_of_mem _ wF_X4_50) rfl dX4_find_169 ?_
        refine lv_bipush (pc := 172) (v := 20) hx hb dX4_find_172 (by decide) ?_
        refine nf_iald (pc := 174) hC hM 0 rfl rfl 20 rfl (by omega) (by decide) dX4_find_174 ?_
        refine lv_iconst (pc := 175) (v := 2) hx hb dX4_find_175 (by decide) ?_
        refine lv_icmp_ne (pc := 176) (tgt := 183) hx hb dX4_find_176 (by decide) (fun h4 => ?_) (fun h4 => ?_)
        · skip
          refine lv_iconst (pc := 183) (v := 4) hx hb dX4_find_183 (by decide) ?_
          refine lv_iload_n (pc := 184) hx hb dX4_find_184 rfl (lv_at hl 0 rfl) ?_
          refine lv_if_eq (pc := 185) (tgt := 198) hx hb dX4_find_185 (by decide) (fun _ => ?_) (fun hh => absurd (by decide) hh)
          refine lv_iload_n (pc := 198) hx hb dX4_find_198 rfl (lv_at hl 1 rfl) ?_
          refine lv_aload_n (pc := 199) hx hb dX4_find_199 rfl (lv_at hl 2 rfl) ?_
          refine nf_getr (pc := 200) hC hinX4 hM rfl rfl 16 (by decide) (List.mem_cons_of_mem _ wF_X4_47) rfl dX4_find_200 ?_
          refine lv_bipush (pc := 203) (v := 20) hx hb dX4_find_203 (by decide) ?_
          refine nf_iald (pc := 205) hC hM 0 rfl rfl 20 rfl (by omega) (by decide) dX4_find_205 ?_
          refine lv_aload_n (pc := 206) hx hb dX4_find_206 rfl (lv_at hl 2 rfl) ?_
          refine nf_getr (pc := 207) hC hinX4 hM rfl rfl 19 (by decide) (List.mem_cons_of_mem _ wF_X4_56) rfl dX4_find_207 ?_
          refine lv_bipush (pc := 210) (v := 20) hx hb dX4_find_210 (by decide) ?_
          refine nf_iald (pc := 212) hC hM 0 rfl rfl 20 rfl (by omega) (by decide) dX4_find_212 ?_
          refine nf_callv (pc := 213) (va_runV (As := [.int 4, .int (I 22 0 nd), .int (I 33 0 20), .int (I 36 0 20)]) (rest := []) hC.1 (ct_X4_post (kd := 4) (tz := (I 22 0 nd)) (ky := (I 33 0 20)) (ak := (I 36 0 20)) (rwn := rwn) hr (by omega)) (cwV 4 hC.1.2.2.2.2 (gd_V wM_X4_79 wi_X4_post wsel_X4_post wini_X4 wcode_X4_post) rfl rfl rfl (by decide +kernel) ⟨by decide, by decide⟩) (nf_preV hC hM rfl rfl) rfl rfl hl.1 rfl (lv_room (Nat.le_of_ble_eq_true rfl)) dX4_find_213 ⟨Nat.le_refl _, Nat.le_refl _⟩) hM (fun H locs hM => ?_)
          refine lv_aload_n (pc := 216) hx hb dX4_find_216 rfl (lv_at hl 2 rfl) ?_
          refine nf_getr (pc := 217) hC hinX4 hM rfl rfl 17 (by decide) (List.mem_cons_of_mem _ wF_X4_50) rfl dX4_find_217 ?_
          refine lv_aload_n (pc := 220) hx hb dX4_find_220 rfl (lv_at hl 2 rfl) ?_
          refine nf_geti (pc := 221) hC hinX4 hM rfl rfl 13 (by decide) (List.mem_cons_of_mem _ wF_X4_75) rfl dX4_find_221 ?_
          refine lv_iconst (pc := 224) (v := 1) hx hb dX4_find_224 (by decide) ?_
          refine lv_isub (pc := 225) hx hb dX4_find_225 ?_
          refine lv_aload_n (pc := 226) hx hb dX4_find_226 rfl (lv_at hl 2 rfl) ?_
          refine nf_getr (pc := 227) hC hinX4 hM rfl rfl 17 (by decide) (List.mem_cons_of_mem _ wF_X4_50) rfl dX4_find_227 ?_
          refine lv_bipush (pc := 230) (v := 20) hx hb dX4_find_230 (by decide) ?_
          refine nf_iald (pc := 232) hC hM 0 rfl rfl 20 rfl (by omega) (by decide) dX4_find_232 ?_
          refine nf_iast (pc := 233) hC hM 0 rfl rfl rwn (by simp [nf_iu, ys_po_row _ _ _ _ hr, nI_pred]) (by omega) (by decide) dX4_find_233 (fun H locs hM => ?_)
          refine lv_aload_n (pc := 234) hx hb dX4_find_234 rfl (lv_at hl 2 rfl) ?_
          refine nf_getr (pc := 235) hC hinX4 hM rfl rfl 18 (by decide) (List.mem_cons_of_mem _ wF_X4_53) rfl dX4_find_235 ?_
          refine lv_aload_n (pc := 238) hx hb dX4_find_238 rfl (lv_at hl 2 rfl) ?_
          refine nf_geti (pc := 239) hC hinX4 hM rfl rfl 13 (by decide) (List.mem_cons_of_mem _ wF_X4_75) rfl dX4_find_239 ?_
          refine lv_iconst (pc := 242) (v := 1) hx hb dX4_find_242 (by decide) ?_
          refine lv_isub (pc := 243) hx hb dX4_find_243 ?_
          refine lv_aload_n (pc := 244) hx hb dX4_find_244 rfl (lv_at hl 2 rfl) ?_
          refine nf_getr (pc := 245) hC hinX4 hM rfl rfl 18 (by decide) (List.mem_cons_of_mem _ wF_X4_53) rfl dX4_find_245 ?_
          refine lv_bipush (pc := 248) (v := 20) hx hb dX4_find_248 (by decide) ?_
          refine nf_iald (pc := 250) hC hM 0 rfl rfl 20 rfl (by omega) (by decide) dX4_find_250 ?_
          refine nf_iast (pc := 251) hC hM 0 rfl rfl rwn (by simp [nf_iu, ys_po_row _ _ _ _ hr, nI_pred]) (by omega) (by decide) dX4_find_251 (fun H locs hM => ?_)
          refine lv_aload_n (pc := 252) hx hb dX4_find_252 rfl (lv_at hl 2 rfl) ?_
          refine nf_getr (pc := 253) hC hinX4 hM rfl rfl 20 (by decide) (List.mem_cons_of_mem _ wF_X4_59) rfl dX4_find_253 ?_
          refine lv_aload_n (pc := 256) hx hb dX4_find_256 rfl (lv_at hl 2 rfl) ?_
          refine nf_geti (pc := 257) hC hinX4 hM rfl rfl 13 (by decide) (List.mem_cons_of_mem _ wF_X4_75) rfl dX4_find_257 ?_
          refine lv_iconst (pc := 260) (v := 1) hx hb dX4_find_260 (by decide) ?_
          refine lv_isub (pc := 261) hx hb dX4_find_261 ?_
          refine lv_aload_n (pc := 262) hx hb dX4_find_262 rfl (lv_at hl 2 rfl) ?_
          refine nf_getr (pc := 263) hC hinX4 hM rfl rfl 20 (by decide) (List.mem_cons_of_mem _ wF_X4_59) rfl dX4_find_263 ?_
          refine lv_bipush (pc := 266) (v := 20) hx hb dX4_find_266 (by decide) ?_
          refine nf_iald (pc := 268) hC hM 0 rfl rfl 20 rfl (by omega) (by decide) dX4_find_268 ?_
          refine nf_iast (pc := 269) hC hM 0 rfl rfl rwn (by simp [nf_iu, ys_po_row _ _ _ _ hr, nI_pred]) (by omega) (by decide) dX4_find_269 (fun H locs hM => ?_)
          refine lv_aload_n (pc := 270) hx hb dX4_find_270 rfl (lv_at hl 2 rfl) ?_
          refine nf_getr (pc := 271) hC hinX4 hM rfl rfl 21 (by decide) (List.mem_cons_of_mem _ wF_X4_62) rfl dX4_find_271 ?_
          refine lv_aload_n (pc := 274) hx hb dX4_find_274 rfl (lv_at hl 2 rfl) ?_
          refine nf_geti (pc := 275) hC hinX4 hM rfl rfl 13 (by decide) (List.mem_cons_of_mem _ wF_X4_75) rfl dX4_find_275 ?_
          refine lv_iconst (pc := 278) (v := 1) hx hb dX4_find_278 (by decide) ?_
          refine lv_isub (pc := 279) hx hb dX4_find_279 ?_
          refine lv_iload_n (pc := 280) hx hb dX4_find_280 rfl (lv_at hl 0 rfl) ?_
          refine lv_if_eq (pc := 281) (tgt := 289) hx hb dX4_find_281 (by decide) (fun _ => ?_) (fun hh => absurd (by decide) hh)
          refine lv_aload_n (pc := 289) hx hb dX4_find_289 rfl (lv_at hl 2 rfl) ?_
          refine nf_getr (pc := 290) hC hinX4 hM rfl rfl 21 (by decide) (List.mem_cons_of_mem _ wF_X4_62) rfl dX4_find_290 ?_
          refine lv_bipush (pc := 293) (v := 20) hx hb dX4_find_293 (by decide) ?_
          refine nf_lald (pc := 295) hC hM 1 rfl rfl 20 rfl (by omega) (by decide) dX4_find_295 ?_
          refine nf_last (pc := 296) hC hM 1 rfl rfl rwn (by simp [nf_iu, ys_po_row _ _ _ _ hr, nI_pred]) (by omega) (by decide) dX4_find_296 (fun H locs hM => ?_)
          exact hret _ _ _ _ _ _ _ (by simp [ys_fdI, h1, h2, h3, h4] <;> rfl) (by simp [ys_fdJ, h1, h2, h3, h4] <;> rfl) rfl hM dX4_find_297
        · skip
          refine lv_iconst (pc := 179) (v := 3) hx hb dX4_find_179 (by decide) ?_
          refine lv_goto (pc := 180) (tgt := 184) hx hb dX4_find_180 (by decide) ?_
          refine lv_iload_n (pc := 184) hx hb dX4_find_184 rfl (lv_at hl 0 rfl) ?_
          refine lv_if_eq (pc := 185) (tgt := 198) hx hb dX4_find_185 (by decide) (fun _ => ?_) (fun hh => absurd (by decide) hh)
          refine lv_iload_n (pc := 198) hx hb dX4_find_198 rfl (lv_at hl 1 rfl) ?_
          refine lv_aload_n (pc := 199) hx hb dX4_find_199 rfl (lv_at hl 2 rfl) ?_
          refine nf_getr (pc := 200) hC hinX4 hM rfl rfl 16 (by decide) (List.mem_cons_of_mem _ wF_X4_47) rfl dX4_find_200 ?_
          refine lv_bipush (pc := 203) (v := 20) hx hb dX4_find_203 (by decide) ?_
          refine nf_iald (pc := 205) hC hM 0 rfl rfl 20 rfl (by omega) (by decide) dX4_find_205 ?_
          refine lv_aload_n (pc := 206) hx hb dX4_find_206 rfl (lv_at hl 2 rfl) ?_
          refine nf_getr (pc := 207) hC hinX4 hM rfl rfl 19 (by decide) (List.mem_cons_of_mem _ wF_X4_56) rfl dX4_find_207 ?_
          refine lv_bipush (pc := 210) (v := 20) hx hb dX4_find_210 (by decide) ?_
          refine nf_iald (pc := 212) hC hM 0 rfl rfl 20 rfl (by omega) (by decide) dX4_find_212 ?_
          refine nf_callv (pc := 213) (va_runV (As := [.int 3, .int (I 22 0 nd), .int (I 33 0 20), .int (I 36 0 20)]) (rest := []) hC.1 (ct_X4_post (kd := 3) (tz := (I 22 0 nd)) (ky := (I 33 0 20)) (ak := (I 36 0 20)) (rwn := rwn) hr (by omega)) (cwV 4 hC.1.2.2.2.2 (gd_V wM_X4_79 wi_X4_post wsel_X4_post wini_X4 wcode_X4_post) rfl rfl rfl (by decide +kernel) ⟨by decide, by decide⟩) (nf_preV hC hM rfl rfl) rfl rfl hl.1 rfl (lv_room (Nat.le_of_ble_eq_true rfl)) dX4_find_213 ⟨Nat.le_refl _, Nat.le_refl _⟩) hM (fun H locs hM => ?_)
          refine lv_aload_n (pc := 216) hx hb dX4_find_216 rfl (lv_at hl 2 rfl) ?_
          refine nf_getr (pc := 217) hC hinX4 hM rfl rfl 17 (by decide) (List.mem_cons_of_mem _ wF_X4_50) rfl dX4_find_217 ?_
          refine lv_aload_n (pc := 220) hx hb dX4_find_220 rfl (lv_at hl 2 rfl) ?_
          refine nf_geti (pc := 221) hC hinX4 hM rfl rfl 13 (by decide) (List.mem_cons_of_mem _ wF_X4_75) rfl dX4_find_221 ?_
          refine lv_iconst (pc := 224) (v := 1) hx hb dX4_find_224 (by decide) ?_
          refine lv_isub (pc := 225) hx hb dX4_find_225 ?_
          refine lv_aload_n (pc := 226) hx hb dX4_find_226 rfl (lv_at hl 2 rfl) ?_
          refine nf_getr (pc := 227) hC hinX4 hM rfl rfl 17 (by decide) (List.mem_cons_of_mem _ wF_X4_50) rfl dX4_find_227 ?_
          refine lv_bipush (pc := 230) (v := 20) hx hb dX4_find_230 (by decide) ?_
          refine nf_iald (pc := 232) hC hM 0 rfl rfl 20 rfl (by omega) (by decide) dX4_find_232 ?_
          refine nf_iast (pc := 233) hC hM 0 rfl rfl rwn (by simp [nf_iu, ys_po_row _ _ _ _ hr, nI_pred]) (by omega) (by decide) dX4_find_233 (fun H locs hM => ?_)
          refine lv_aload_n (pc := 234) hx hb dX4_find_234 rfl (lv_at hl 2 rfl) ?_
          refine nf_getr (pc := 235) hC hinX4 hM rfl rfl 18 (by decide) (List.mem_cons_of_mem _ wF_X4_53) rfl dX4_find_235 ?_
          refine lv_aload_n (pc := 238) hx hb dX4_find_238 rfl (lv_at hl 2 rfl) ?_
          refine nf_geti (pc := 239) hC hinX4 hM rfl rfl 13 (by decide) (List.mem_cons_of_mem _ wF_X4_75) rfl dX4_find_239 ?_
          refine lv_iconst (pc := 242) (v := 1) hx hb dX4_find_242 (by decide) ?_
          refine lv_isub (pc := 243) hx hb dX4_find_243 ?_
          refine lv_aload_n (pc := 244) hx hb dX4_find_244 rfl (lv_at hl 2 rfl) ?_
          refine nf_getr (pc := 245) hC hinX4 hM rfl rfl 18 (by decide) (List.mem_cons_of_mem _ wF_X4_53) rfl dX4_find_245 ?_
          refine lv_bipush (pc := 248) (v := 20) hx hb dX4_find_248 (by decide) ?_
          refine nf_iald (pc := 250) hC hM 0 rfl rfl 20 rfl (by omega) (by decide) dX4_find_250 ?_
          refine nf_iast (pc := 251) hC hM 0 rfl rfl rwn (by simp [nf_iu, ys_po_row _ _ _ _ hr, nI_pred]) (by omega) (by decide) dX4_find_251 (fun H locs hM => ?_)
          refine lv_aload_n (pc := 252) hx hb dX4_find_252 rfl (lv_at hl 2 rfl) ?_
          refine nf_getr (pc := 253) hC hinX4 hM rfl rfl 20 (by decide) (List.mem_cons_of_mem _ wF_X4_59) rfl dX4_find_253 ?_
          refine lv_aload_n (pc := 256) hx hb dX4_find_256 rfl (lv_at hl 2 rfl) ?_
          refine nf_geti (pc := 257) hC hinX4 hM rfl rfl 13 (by decide) (List.mem_cons_of_mem _ wF_X4_75) rfl dX4_find_257 ?_
          refine lv_iconst (pc := 260) (v := 1) hx hb dX4_find_260 (by decide) ?_
          refine lv_isub (pc := 261) hx hb dX4_find_261 ?_
          refine lv_aload_n (pc := 262) hx hb dX4_find_262 rfl (lv_at hl 2 rfl) ?_
          refine nf_getr (pc := 263) hC hinX4 hM rfl rfl 20 (by decide) (List.mem_cons_of_mem _ wF_X4_59) rfl dX4_find_263 ?_
          refine lv_bipush (pc := 266) (v := 20) hx hb dX4_find_266 (by decide) ?_
          refine nf_iald (pc := 268) hC hM 0 rfl rfl 20 rfl (by omega) (by decide) dX4_find_268 ?_
          refine nf_iast (pc := 269) hC hM 0 rfl rfl rwn (by simp [nf_iu, ys_po_row _ _ _ _ hr, nI_pred]) (by omega) (by decide) dX4_find_269 (fun H locs hM => ?_)
          refine lv_aload_n (pc := 270) hx hb dX4_find_270 rfl (lv_at hl 2 rfl) ?_
          refine nf_getr (pc := 271) hC hinX4 hM rfl rfl 21 (by decide) (List.mem_cons_of_mem _ wF_X4_62) rfl dX4_find_271 ?_
          refine lv_aload_n (pc := 274) hx hb dX4_find_274 rfl (lv_at hl 2 rfl) ?_
          refine nf_geti (pc := 275) hC hinX4 hM rfl rfl 13 (by decide) (List.mem_cons_of_mem _ wF_X4_75) rfl dX4_find_275 ?_
          refine lv_iconst (pc := 278) (v := 1) hx hb dX4_find_278 (by decide) ?_
          refine lv_isub (pc := 279) hx hb dX4_find_279 ?_
          refine lv_iload_n (pc := 280) hx hb dX4_find_280 rfl (lv_at hl 0 rfl) ?_
          refine lv_if_eq (pc := 281) (tgt := 289) hx hb dX4_find_281 (by decide) (fun _ => ?_) (fun hh => absurd (by decide) hh)
          refine lv_aload_n (pc := 289) hx hb dX4_find_289 rfl (lv_at hl 2 rfl) ?_
          refine nf_getr (pc := 290) hC hinX4 hM rfl rfl 21 (by decide) (List.mem_cons_of_mem _ wF_X4_62) rfl dX4_find_290 ?_
          refine lv_bipush (pc := 293) (v := 20) hx hb dX4_find_293 (by decide) ?_
          refine nf_lald (pc := 295) hC hM 1 rfl rfl 20 rfl (by omega) (by decide) dX4_find_295 ?_
          refine nf_last (pc := 296) hC hM 1 rfl rfl rwn (by simp [nf_iu, ys_po_row _ _ _ _ hr, nI_pred]) (by omega) (by decide) dX4_find_296 (fun H locs hM => ?_)
          exact hret _ _ _ _ _ _ _ (by simp [ys_fdI, h1, h2, h3, h4] <;> rfl) (by simp [ys_fdJ, h1, h2, h3, h4] <;> rfl) rfl hM dX4_find_297
      · skip
        refine lv_iconst (pc := 153) (v := 1) hx hb dX4_find_153 (by decide) ?_
        refine lv_goto (pc := 154) (tgt := 158) hx hb dX4_find_154 (by decide) ?_
        refine lv_istore_n (pc := 158) (lv' := [(3, .int 1), (2, .int (I 22 0 nd)), (0, .ref (ad 20 0)), (1, .int (nI nd))]) hx hb dX4_find_158 rfl hl (by decide) rfl (fun ls hl => ?_)
        refine lv_aload_n (pc := 159) hx hb dX4_find_159 rfl (lv_at hl 2 rfl) ?_
        refine lv_iload_n (pc := 160) hx hb dX4_find_160 rfl (lv_at hl 0 rfl) ?_
        refine lv_if_eq (pc := 161) (tgt := 168) hx hb dX4_find_161 (by decide) (fun hh => absurd hh (by decide)) (fun _ => ?_)
        refine lv_iconst (pc := 164) (v := 2) hx hb dX4_find_164 (by decide) ?_
        refine lv_goto (pc := 165) (tgt := 184) hx hb dX4_find_165 (by decide) ?_
        refine lv_iload_n (pc := 184) hx hb dX4_find_184 rfl (lv_at hl 0 rfl) ?_
        refine lv_if_eq (pc := 185) (tgt := 198) hx hb dX4_find_185 (by decide) (fun hh => absurd hh (by decide)) (fun _ => ?_)
        refine lv_aload_n (pc := 188) hx hb dX4_find_188 rfl (lv_at hl 2 rfl) ?_
        refine nf_getr (pc := 189) hC hinX4 hM rfl rfl 19 (by decide) (List.mem_cons_of_mem _ wF_X4_56) rfl dX4_find_189 ?_
        refine lv_bipush (pc := 192) (v := 20) hx hb dX4_find_192 (by decide) ?_
        refine nf_iald (pc := 194) hC hM 0 rfl rfl 20 rfl (by omega) (by decide) dX4_find_194 ?_
        refine lv_goto (pc := 195) (tgt := 199) hx hb dX4_find_195 (by decide) ?_
        refine lv_aload_n (pc := 199) hx hb dX4_find_199 rfl (lv_at hl 2 rfl) ?_
        refine nf_getr (pc := 200) hC hinX4 hM rfl rfl 16 (by decide) (List.mem_cons_of_mem _ wF_X4_47) rfl dX4_find_200 ?_
        refine lv_bipush (pc := 203) (v := 20) hx hb dX4_find_203 (by decide) ?_
        refine nf_iald (pc := 205) hC hM 0 rfl rfl 20 rfl (by omega) (by decide) dX4_find_205 ?_
        refine lv_aload_n (pc := 206) hx hb dX4_find_206 rfl (lv_at hl 2 rfl) ?_
        refine nf_getr (pc := 207) hC hinX4 hM rfl rfl 19 (by decide) (List.mem_cons_of_mem _ wF_X4_56) rfl dX4_find_207 ?_
        refine lv_bipush (pc := 210) (v := 20) hx hb dX4_find_210 (by decide) ?_
        refine nf_iald (pc := 212) hC hM 0 rfl rfl 20 rfl (by omega) (by decide) dX4_find_212 ?_
        refine nf_callv (pc := 213) (va_runV (As := [.int 2, .int (I 36 0 20), .int (I 33 0 20), .int (I 36 0 20)]) (rest := []) hC.1 (ct_X4_post (kd := 2) (tz := (I 36 0 20)) (ky := (I 33 0 20)) (ak := (I 36 0 20)) (rwn := rwn) hr (by omega)) (cwV 4 hC.1.2.2.2.2 (gd_V wM_X4_79 wi_X4_post wsel_X4_post wini_X4 wcode_X4_post) rfl rfl rfl (by decide +kernel) ⟨by decide, by decide⟩) (nf_preV hC hM rfl rfl) rfl rfl hl.1 rfl (lv_room (Nat.le_of_ble_eq_true rfl)) dX4_find_213 ⟨Nat.le_refl _, Nat.le_refl _⟩) hM (fun H locs hM => ?_)
        refine lv_aload_n (pc := 216) hx hb dX4_find_216 rfl (lv_at hl 2 rfl) ?_
        refine nf_getr (pc := 217) hC hinX4 hM rfl rfl 17 (by decide) (List.mem_cons_of_mem _ wF_X4_50) rfl dX4_find_217 ?_
        refine lv_aload_n (pc := 220) hx hb dX4_find_220 rfl (lv_at hl 2 rfl) ?_
        refine nf_geti (pc := 221) hC hinX4 hM rfl rfl 13 (by decide) (List.mem_cons_of_mem _ wF_X4_75) rfl dX4_find_221 ?_
        refine lv_iconst (pc := 224) (v := 1) hx hb dX4_find_224 (by decide) ?_
        refine lv_isub (pc := 225) hx hb dX4_find_225 ?_
        refine lv_aload_n (pc := 226) hx hb dX4_find_226 rfl (lv_at hl 2 rfl) ?_
        refine nf_getr (pc := 227) hC hinX4 hM rfl rfl 17 (by decide) (List.mem_cons_of_mem _ wF_X4_50) rfl dX4_find_227 ?_
        refine lv_bipush (pc := 230) (v := 20) hx hb dX4_find_230 (by decide) ?_
        refine nf_iald (pc := 232) hC hM 0 rfl rfl 20 rfl (by omega) (by decide) dX4_find_232 ?_
        refine nf_iast (pc := 233) hC hM 0 rfl rfl rwn (by simp [nf_iu, ys_po_row _ _ _ _ hr, nI_pred]) (by omega) (by decide) dX4_find_233 (fun H locs hM => ?_)
        refine lv_aload_n (pc := 234) hx hb dX4_find_234 rfl (lv_at hl 2 rfl) ?_
        refine nf_getr (pc := 235) hC hinX4 hM rfl rfl 18 (by decide) (List.mem_cons_of_mem _ wF_X4_53) rfl dX4_find_235 ?_
        refine lv_aload_n (pc := 238) hx hb dX4_find_238 rfl (lv_at hl 2 rfl) ?_
        refine nf_geti (pc := 239) hC hinX4 hM rfl rfl 13 (by decide) (List.mem_cons_of_mem _ wF_X4_75) rfl dX4_find_239 ?_
        refine lv_iconst (pc := 242) (v := 1) hx hb dX4_find_242 (by decide) ?_
        refine lv_isub (pc := 243) hx hb dX4_find_243 ?_
        refine lv_aload_n (pc := 244) hx hb dX4_find_244 rfl (lv_at hl 2 rfl) ?_
        refine nf_getr (pc := 245) hC hinX4 hM rfl rfl 18 (by decide) (List.mem_cons_of_mem _ wF_X4_53) rfl dX4_find_245 ?_
        refine lv_bipush (pc := 248) (v := 20) hx hb dX4_find_248 (by decide) ?_
        refine nf_iald (pc := 250) hC hM 0 rfl rfl 20 rfl (by omega) (by decide) dX4_find_250 ?_
        refine nf_iast (pc := 251) hC hM 0 rfl rfl rwn (by simp [nf_iu, ys_po_row _ _ _ _ hr, nI_pred]) (by omega) (by decide) dX4_find_251 (fun H locs hM => ?_)
        refine lv_aload_n (pc := 252) hx hb dX4_find_252 rfl (lv_at hl 2 rfl) ?_
        refine nf_getr (pc := 253) hC hinX4 hM rfl rfl 20 (by decide) (List.mem_cons_of_mem _ wF_X4_59) rfl dX4_find_253 ?_
        refine lv_aload_n (pc := 256) hx hb dX4_find_256 rfl (lv_at hl 2 rfl) ?_
        refine nf_geti (pc := 257) hC hinX4 hM rfl rfl 13 (by decide) (List.mem_cons_of_mem _ wF_X4_75) rfl dX4_find_257 ?_
        refine lv_iconst (pc := 260) (v := 1) hx hb dX4_find_260 (by decide) ?_
        refine lv_isub (pc := 261) hx hb dX4_find_261 ?_
        refine lv_aload_n (pc := 262) hx hb dX4_find_262 rfl (lv_at hl 2 rfl) ?_
        refine nf_getr (pc := 263) hC hinX4 hM rfl rfl 20 (by decide) (List.mem_cons_of_mem _ wF_X4_59) rfl dX4_find_263 ?_
        refine lv_bipush (pc := 266) (v := 20) hx hb dX4_find_266 (by decide) ?_
        refine nf_iald (pc := 268) hC hM 0 rfl rfl 20 rfl (by omega) (by decide) dX4_find_268 ?_
        refine nf_iast (pc := 269) hC hM 0 rfl rfl rwn (by simp [nf_iu, ys_po_row _ _ _ _ hr, nI_pred]) (by omega) (by decide) dX4_find_269 (fun H locs hM => ?_)
        refine lv_aload_n (pc := 270) hx hb dX4_find_270 rfl (lv_at hl 2 rfl) ?_
        refine nf_getr (pc := 271) hC hinX4 hM rfl rfl 21 (by decide) (List.mem_cons_of_mem _ wF_X4_62) rfl dX4_find_271 ?_
        refine lv_aload_n (pc := 274) hx hb dX4_find_274 rfl (lv_at hl 2 rfl) ?_
        refine nf_geti (pc := 275) hC hinX4 hM rfl rfl 13 (by decide) (List.mem_cons_of_mem _ wF_X4_75) rfl dX4_find_275 ?_
        refine lv_iconst (pc := 278) (v := 1) hx hb dX4_find_278 (by decide) ?_
        refine lv_isub (pc := 279) hx hb dX4_find_279 ?_
        refine lv_iload_n (pc := 280) hx hb dX4_find_280 rfl (lv_at hl 0 rfl) ?_
        refine lv_if_eq (pc := 281) (tgt := 289) hx hb dX4_find_281 (by decide) (fun hh => absurd hh (by decide)) (fun _ => ?_)
        refine lv_iload_n (pc := 284) hx hb dX4_find_284 rfl (lv_at hl 1 rfl) ?_
        refine lv_i2l (pc := 285) hx hb dX4_find_285 rfl ?_
        refine lv_goto (pc := 286) (tgt := 296) hx hb dX4_find_286 (by decide) ?_
        refine nf_last (pc := 296) hC hM 1 rfl rfl rwn (by simp [nf_iu, ys_po_row _ _ _ _ hr, nI_pred]) (by omega) (by decide) dX4_find_296 (fun H locs hM => ?_)
        exact hret _ _ _ _ _ _ _ (by simp [ys_fdI, h1, h2, h3] <;> rfl) (by simp [ys_fdJ, h1, h2, h3] <;> rfl) rfl hM dX4_find_297
  · have h1 := nb_0 h1
    refine lv_iload_n (pc := 22) hx hb dX4_find_22 rfl (lv_at hl 0 rfl) ?_
    refine lv_istore_n (pc := 23) (lv' := [(3, .int (I 22 0 nd)), (2, .int (I 22 0 nd)), (0, .ref (ad 20 0)), (1, .int (nI nd))]) hx hb dX4_find_23 rfl hl (by decide) rfl (fun ls hl => ?_)
    refine lv_iconst (pc := 24) (v := 0) hx hb dX4_find_24 (by decide) ?_
    refine lv_istore (pc := 25) (lv' := [(4, .int 0), (3, .int (I 22 0 nd)), (2, .int (I 22 0 nd)), (0, .ref (ad 20 0)), (1, .int (nI nd))]) hx hb dX4_find_25 hl (by decide) rfl (fun ls hl => ?_)
    have loop27 : ∀ (n : Nat) (j : Nat) (o : Int32) (ls : Array Slot) (H : Heap) (locs : List Loc), 8 - j < n → (j ≤ 8) → (ys_onw I nd 8 0 (I 22 0 nd) = ys_onw I nd (8 - j) j o) → nf_M D vwCl Bs (xS cs nn) ad I J P s.heap H locs → lv_has ls 6 [(4, .int (nI j)), (3, .int o), (2, .int (I 22 0 nd)), (0, .ref (ad 20 0)), (1, .int (nI nd))] → W p l e (nf_Rm 2 46) s m ([.ref (ad 20 0), .int (nI nd)] : List Value).toArray below meth c H locs 0 0 Q (F0 m 27 ls []) := by
      intro n
      induction n with
      | zero => exact fun _ _ _ _ _ hmz => absurd hmz (Nat.not_lt_zero _)
      | succ n ihloop27 =>
        intro j o ls H locs hmz hjn hf hM hl
        refine lv_iload (pc := 27) hx hb dX4_find_27 (lv_at hl 0 rfl) ?_
        refine lv_bipush (pc := 29) (v := nI 8) hx hb dX4_find_29 (by decide) ?_
        refine lv_icmp_ge (pc := 31) (tgt := 83) hx hb dX4_find_31 (by decide) (fun hh => ?_) (fun hh => ?_)
        · have hj5 : 8 ≤ j := (nI_leI (by omega) (by omega)).mp (by exact hh)
          refine lv_aload_n (pc := 83) hx hb dX4_find_83 rfl (lv_at hl 3 rfl) ?_
          refine lv_bipush (pc := 84) (v := 20) hx hb dX4_find_84 (by decide) ?_
          refine lv_aload_n (pc := 86) hx hb dX4_find_86 rfl (lv_at hl 3 rfl) ?_
          refine nf_geti (pc := 87) hC hinX4 hM rfl rfl 13 (by decide) (List.mem_cons_of_mem _ wF_X4_75) rfl dX4_find_87 ?_
          refine nf_callv (pc := 90) (va_runV (As := [.int 20, .int (nI rwn)]) (rest := []) hC.1 (ct_X4_copy (f := 20) (t := rwn) (by omega) (by omega)) (cwV 2 hC.1.2.2.2.2 (gd_V wM_X4_111 wi_X4_copy wsel_X4_copy wini_X4 wcode_X4_copy) rfl rfl rfl (by decide +kernel) ⟨by decide, by decide⟩) (nf_preV hC hM rfl rfl) rfl rfl hl.1 (by rw [hr]; rfl) (lv_room (Nat.le_of_ble_eq_true rfl)) dX4_find_90 ⟨Nat.le_refl _, Nat.le_refl _⟩) hM (fun H locs hM => ?_)
          refine lv_aload_n (pc := 93) hx hb dX4_find_93 rfl (lv_at hl 3 rfl) ?_
          refine nf_getr (pc := 94) hC hinX4 hM rfl rfl 15 (by decide) (List.mem_cons_of_mem _ wF_X4_44) rfl dX4_find_94 ?_
          refine lv_aload_n (pc := 97) hx hb dX4_find_97 rfl (lv_at hl 3 rfl) ?_
          refine nf_geti (pc := 98) hC hinX4 hM rfl rfl 13 (by decide) (List.mem_cons_of_mem _ wF_X4_75) rfl dX4_find_98 ?_
          refine lv_iload_n (pc := 101) hx hb dX4_find_101 rfl (lv_at hl 1 rfl) ?_
          refine nf_iast (pc := 102) hC hM 0 rfl rfl rwn (by simp [nf_iu, ys_cp_row hr]) (by omega) (by decide) dX4_find_102 (fun H locs hM => ?_)
          refine lv_aload_n (pc := 103) hx hb dX4_find_103 rfl (lv_at hl 3 rfl) ?_
          refine nf_getr (pc := 104) hC hinX4 hM rfl rfl 20 (by decide) (List.mem_cons_of_mem _ wF_X4_59) rfl dX4_find_104 ?_
          refine lv_aload_n (pc := 107) hx hb dX4_find_107 rfl (lv_at hl 3 rfl) ?_
          refine nf_geti (pc := 108) hC hinX4 hM rfl rfl 13 (by decide) (List.mem_cons_of_mem _ wF_X4_75) rfl dX4_find_108 ?_
          refine lv_aload_n (pc := 111) hx hb dX4_find_111 rfl (lv_at hl 3 rfl) ?_
          refine nf_getr (pc := 112) hC hinX4 hM rfl rfl 20 (by decide) (List.mem_cons_of_mem _ wF_X4_59) rfl dX4_find_112 ?_
          refine lv_bipush (pc := 115) (v := 20) hx hb dX4_find_115 (by decide) ?_
          refine nf_iald (pc := 117) hC hM 0 rfl rfl 20 rfl (by omega) (by decide) dX4_find_117 ?_
          refine lv_iconst (pc := 118) (v := 1) hx hb dX4_find_118 (by decide) ?_
          refine lv_iadd (pc := 119) hx hb dX4_find_119 ?_
          refine nf_iast (pc := 120) hC hM 0 rfl rfl rwn (by simp [nf_iu, ys_cp_row hr]) (by omega) (by decide) dX4_find_120 (fun H locs hM => ?_)
          refine lv_aload_n (pc := 121) hx hb dX4_find_121 rfl (lv_at hl 3 rfl) ?_
          refine lv_dup (pc := 122) hx hb dX4_find_122 rfl ?_
          refine nf_geti (pc := 123) hC hinX4 hM rfl rfl 13 (by decide) (List.mem_cons_of_mem _ wF_X4_75) rfl dX4_find_123 ?_
          refine lv_iconst (pc := 126) (v := 1) hx hb dX4_find_126 (by decide) ?_
          refine lv_iadd (pc := 127) hx hb dX4_find_127 ?_
          refine nf_puti (pc := 128) hC hinX4 tyX4 tyX4_ok nmX4 hM rfl rfl 13 (by decide) (List.mem_cons_of_mem _ wF_X4_75) rfl (by decide +kernel) rfl dX4_find_128 (fun H locs hM => ?_)
          exact hret _ _ _ _ _ _ _ (by rw [ys_fdI, if_pos h1, ys_fp, hf, show 8 - j = 0 by omega]; rfl) (by rw [ys_fdJ, if_pos h1]) rfl hM dX4_find_131
        · have hj5 : j < 8 := Nat.lt_of_not_le (fun z => hh (by exact (nI_leI (by omega) (by omega)).mpr z))
          refine lv_aload_n (pc := 34) hx hb dX4_find_34 rfl (lv_at hl 3 rfl) ?_
          refine nf_getr (pc := 35) hC hinX4 hM rfl rfl 4 (by decide) (List.mem_cons_of_mem _ wF_X4_19) rfl dX4_find_35 ?_
          refine lv_bipush (pc := 38) (v := 8) hx hb dX4_find_38 (by decide) ?_
          refine lv_iload_n (pc := 40) hx hb dX4_find_40 rfl (lv_at hl 4 rfl) ?_
          refine lv_imul (pc := 41) hx hb dX4_find_41 ?_
          refine lv_iload (pc := 42) hx hb dX4_find_42 (lv_at hl 0 rfl) ?_
          refine lv_iadd (pc := 44) hx hb dX4_find_44 ?_
          refine nf_iald (pc := 45) hC hM 0 rfl rfl (8 * nd + j) (nk_8 rfl rfl) (by omega) (by decide) dX4_find_45 ?_
          refine lv_istore (pc := 46) (lv' := [(5, .int (I 24 0 (8 * nd + j))), (4, .int (nI j)), (3, .int o), (2, .int (I 22 0 nd)), (0, .ref (ad 20 0)), (1, .int (nI nd))]) hx hb dX4_find_46 hl (by decide) rfl (fun ls hl => ?_)
          refine lv_iload (pc := 48) hx hb dX4_find_48 (lv_at hl 0 rfl) ?_
          refine lv_iconst (pc := 50) (v := -1) hx hb dX4_find_50 (by decide) ?_
          refine lv_icmp_eq (pc := 51) (tgt := 75) hx hb dX4_find_51 (by decide) (fun h6 => ?_) (fun h6 => ?_)
          · skip
            refine lv_iload_n (pc := 75) hx hb dX4_find_75 rfl (lv_at hl 2 rfl) ?_
            refine lv_istore_n (pc := 76) (lv' := [(3, .int o), (5, .int (I 24 0 (8 * nd + j))), (4, .int (nI j)), (2, .int (I 22 0 nd)), (0, .ref (ad 20 0)), (1, .int (nI nd))]) hx hb dX4_find_76 rfl hl (by decide) rfl (fun ls hl => ?_)
            refine lv_iinc (pc := 77) (k := 2) (v := nI (j + 1)) (lv' := [(4, .int (nI (j + 1))), (3, .int o), (5, .int (I 24 0 (8 * nd + j))), (2, .int (I 22 0 nd)), (0, .ref (ad 20 0)), (1, .int (nI nd))]) hx hb dX4_find_77 hl rfl (nI_1 _) (by decide) rfl (fun ls hl => ?_)
            refine lv_goto (pc := 80) (tgt := 27) hx hb dX4_find_80 (by decide) ?_
            exact ihloop27 (j + 1) o ls _ _ (by omega) (by omega) (by rw [hf, show 8 - j = (8 - (j + 1)) + 1 by omega, ys_onw]; congr 1; simp [h6]) hM (lv_sub hl [0, 1, 3, 4, 5] rfl)
          · skip
            refine lv_iload (pc := 54) hx hb dX4_find_54 (lv_at hl 0 rfl) ?_
            refine lv_iload_n (pc := 56) hx hb dX4_find_56 rfl (lv_at hl 5 rfl) ?_
            refine lv_aload_n (pc := 57) hx hb dX4_find_57 rfl (lv_at hl 4 rfl) ?_
            refine nf_getr (pc := 58) hC hinX4 hM rfl rfl 16 (by decide) (List.mem_cons_of_mem _ wF_X4_47) rfl dX4_find_58 ?_
            refine lv_bipush (pc := 61) (v := 20) hx hb dX4_find_61 (by decide) ?_
            refine nf_iald (pc := 63) hC hM 0 rfl rfl 20 rfl (by omega) (by decide) dX4_find_63 ?_
            refine nf_calli (pc := 64) (va_runS (As := [.int (I 24 0 (8 * nd + j)), .int (nI nd), .int (I 33 0 20)]) (rest := []) hC.1 (ct_X4_between) (cwS 3 hC.1.2.2.2.2 (gd_S wM_X4_130 wst_X4_between wini_X4 wcode_X4_between) rfl rfl rfl (by decide +kernel) ⟨by decide, by decide⟩) (nf_preS hC hM) rfl rfl hl.1 rfl (lv_room (Nat.le_of_ble_eq_true rfl)) dX4_find_64 ⟨Nat.le_refl _, Nat.le_refl _⟩) hM (fun H locs hM => ?_)
            refine lv_if_eq (pc := 67) (tgt := 75) hx hb dX4_find_67 (by decide) (fun h7 => ?_) (fun h7 => ?_)
            · have h7 := nb_0 h7
              refine lv_iload_n (pc := 75) hx hb dX4_find_75 rfl (lv_at hl 2 rfl) ?_
              refine lv_istore_n (pc := 76) (lv' := [(3, .int o), (5, .int (I 24 0 (8 * nd + j))), (4, .int (nI j)), (2, .int (I 22 0 nd)), (0, .ref (ad 20 0)), (1, .int (nI nd))]) hx hb dX4_find_76 rfl hl (by decide) rfl (fun ls hl => ?_)
              refine lv_iinc (pc := 77) (k := 2) (v := nI (j + 1)) (lv' := [(4, .int (nI (j + 1))), (3, .int o), (5, .int (I 24 0 (8 * nd + j))), (2, .int (I 22 0 nd)), (0, .ref (ad 20 0)), (1, .int (nI nd))]) hx hb dX4_find_77 hl rfl (nI_1 _) (by decide) rfl (fun ls hl => ?_)
              refine lv_goto (pc := 80) (tgt := 27) hx hb dX4_find_80 (by decide) ?_
              exact ihloop27 (j + 1) o ls _ _ (by omega) (by omega) (by rw [hf, show 8 - j = (8 - (j + 1)) + 1 by omega, ys_onw]; congr 1; simp [h6, h7]) hM (lv_sub hl [0, 1, 3, 4, 5] rfl)
            · have h7 := nb_1 h7
              refine lv_iload (pc := 70) hx hb dX4_find_70 (lv_at hl 0 rfl) ?_
              refine lv_goto (pc := 72) (tgt := 76) hx hb dX4_find_72 (by decide) ?_
              refine lv_istore_n (pc := 76) (lv' := [(3, .int (I 24 0 (8 * nd + j))), (5, .int (I 24 0 (8 * nd + j))), (4, .int (nI j)), (2, .int (I 22 0 nd)), (0, .ref (ad 20 0)), (1, .int (nI nd))]) hx hb dX4_find_76 rfl hl (by decide) rfl (fun ls hl => ?_)
              refine lv_iinc (pc := 77) (k := 2) (v := nI (j + 1)) (lv' := [(4, .int (nI (j + 1))), (3, .int (I 24 0 (8 * nd + j))), (5, .int (I 24 0 (8 * nd + j))), (2, .int (I 22 0 nd)), (0, .ref (ad 20 0)), (1, .int (nI nd))]) hx hb dX4_find_77 hl rfl (nI_1 _) (by decide) rfl (fun ls hl => ?_)
              refine lv_goto (pc := 80) (tgt := 27) hx hb dX4_find_80 (by decide) ?_
              exact ihloop27 (j + 1) (I 24 0 (8 * nd + j)) ls _ _ (by omega) (by omega) (by rw [hf, show 8 - j = (8 - (j + 1)) + 1 by omega, ys_onw]; congr 1; simp [h6, h7]) hM (lv_sub hl [0, 1, 3, 4, 5] rfl)
    exact loop27 _ 0 (I 22 0 nd) ls _ _ (Nat.lt_succ_self _) (Nat.zero_le _) rfl hM hl
end YE
end
section
/-! The model: found, fetch, tell. -/
section YF
variable {l : Launch} {D : va_G} {cs : Nat → ClassId} {Bs nn rwn kp : Nat} {ad : nf_A} {I : nf_I} {J : nf_J} {P : nf_P}
set_option maxHeartbeats 4000000 in
set_option maxRecDepth 100000 in
theorem ct_X4_found {nd : Nat} (hnd : nd < 256) (hpart : ¬ I 34 0 20 = 0 → ∃ pt : Nat, pt < 8 ∧ I 35 0 20 = nI pt) : nf_Tv l yX4_found wsX4_found 0 0 D vwCl (xT cs) Bs (xS cs nn) ad [.ref (ad 20 0), .int (nI nd)] I J P (ys_foI I J nd) J P := by
  refine nf_enterv (cc := cX4_found) (maxL := 3) (by decide) rfl (Nat.le_of_ble_eq_true rfl) ?_
  intro p e s m below meth c ls Q hC hM hl hret
  have hx := hC.1.1
  have hb := hC.1.2.1
  have hl : lv_has ls 3 [(0, .ref (ad 20 0)), (1, .int (nI nd))] := hl
  have hinX4 : ∀ w ∈ u_ws RX4 TX4 22, w ∈ wsX4_found := fun w h => List.mem_cons_of_mem _ (inX4 w h)
  refine lv_aload_n (pc := 0) hx hb dX4_found_0 rfl (lv_at hl 0 rfl) ?_
  refine nf_getr (pc := 1) hC hinX4 hM rfl rfl 21 (by decide) (List.mem_cons_of_mem _ wF_X4_62) rfl dX4_found_1 ?_
  refine lv_bipush (pc := 4) (v := 20) hx hb dX4_found_4 (by decide) ?_
  refine nf_lald (pc := 6) hC hM 1 rfl rfl 20 rfl (by omega) (by decide) dX4_found_6 ?_
  refine lv_l2i (pc := 7) hx hb dX4_found_7 rfl ?_
  refine lv_istore_n (pc := 8) (lv' := [(2, .int (((J 38 0 20)).toInt32)), (0, .ref (ad 20 0)), (1, .int (nI nd))]) hx hb dX4_found_8 rfl hl (by decide) rfl (fun ls hl => ?_)
  refine lv_aload_n (pc := 9) hx hb dX4_found_9 rfl (lv_at hl 1 rfl) ?_
  refine nf_getr (pc := 10) hC hinX4 hM rfl rfl 17 (by decide) (List.mem_cons_of_mem _ wF_X4_50) rfl dX4_found_10 ?_
  refine lv_bipush (pc := 13) (v := 20) hx hb dX4_found_13 (by decide) ?_
  refine nf_iald (pc := 15) hC hM 0 rfl rfl 20 rfl (by omega) (by decide) dX4_found_15 ?_
  refine lv_if_ne (pc := 16) (tgt := 36) hx hb dX4_found_16 (by decide) (fun h1 => ?_) (fun h1 => ?_)
  · skip
    obtain ⟨pt, hpt, hpe⟩ := hpart h1
    refine lv_aload_n (pc := 36) hx hb dX4_found_36 rfl (lv_at hl 1 rfl) ?_
    refine nf_getr (pc := 37) hC hinX4 hM rfl rfl 4 (by decide) (List.mem_cons_of_mem _ wF_X4_19) rfl dX4_found_37 ?_
    refine lv_bipush (pc := 40) (v := 8) hx hb dX4_found_40 (by decide) ?_
    refine lv_iload_n (pc := 42) hx hb dX4_found_42 rfl (lv_at hl 2 rfl) ?_
    refine lv_imul (pc := 43) hx hb dX4_found_43 ?_
    refine lv_aload_n (pc := 44) hx hb dX4_found_44 rfl (lv_at hl 1 rfl) ?_
    refine nf_getr (pc := 45) hC hinX4 hM rfl rfl 18 (by decide) (List.mem_cons_of_mem _ wF_X4_53) rfl dX4_found_45 ?_
    refine lv_bipush (pc := 48) (v := 20) hx hb dX4_found_48 (by decide) ?_
    refine nf_iald (pc := 50) hC hM 0 rfl rfl 20 rfl (by omega) (by decide) dX4_found_50 ?_
    refine lv_iadd (pc := 51) hx hb dX4_found_51 ?_
    refine lv_iload_n (pc := 52) hx hb dX4_found_52 rfl (lv_at hl 0 rfl) ?_
    refine nf_iast (pc := 53) hC hM 0 rfl rfl (8 * nd + pt) (nk_8 rfl hpe) (by omega) (by decide) dX4_found_53 (fun H locs hM => ?_)
    refine lv_aload_n (pc := 54) hx hb dX4_found_54 rfl (lv_at hl 1 rfl) ?_
    refine nf_getr (pc := 55) hC hinX4 hM rfl rfl 6 (by decide) (List.mem_cons_of_mem _ wF_X4_26) rfl dX4_found_55 ?_
    refine lv_iload_n (pc := 58) hx hb dX4_found_58 rfl (lv_at hl 2 rfl) ?_
    refine lv_aload_n (pc := 59) hx hb dX4_found_59 rfl (lv_at hl 1 rfl) ?_
    refine nf_getr (pc := 60) hC hinX4 hM rfl rfl 20 (by decide) (List.mem_cons_of_mem _ wF_X4_59) rfl dX4_found_60 ?_
    refine lv_bipush (pc := 63) (v := 20) hx hb dX4_found_63 (by decide) ?_
    refine nf_iald (pc := 65) hC hM 0 rfl rfl 20 rfl (by omega) (by decide) dX4_found_65 ?_
    refine nf_iast (pc := 66) hC hM 0 rfl rfl nd rfl (by omega) (by decide) dX4_found_66 (fun H locs hM => ?_)
    exact hret _ _ _ _ _ _ _ (by rw [ys_foI, ys_fo1, if_neg h1, hpe, nI_clamp (by omega)]) rfl rfl hM dX4_found_67
  · skip
    refine lv_aload_n (pc := 19) hx hb dX4_found_19 rfl (lv_at hl 1 rfl) ?_
    refine nf_getr (pc := 20) hC hinX4 hM rfl rfl 1 (by decide) (List.mem_cons_of_mem _ wF_X4_7) rfl dX4_found_20 ?_
    refine lv_iload_n (pc := 23) hx hb dX4_found_23 rfl (lv_at hl 2 rfl) ?_
    refine lv_iconst (pc := 24) (v := 2) hx hb dX4_found_24 (by decide) ?_
    refine nf_iast (pc := 25) hC hM 0 rfl rfl nd rfl (by omega) (by decide) dX4_found_25 (fun H locs hM => ?_)
    refine lv_aload_n (pc := 26) hx hb dX4_found_26 rfl (lv_at hl 1 rfl) ?_
    refine nf_getr (pc := 27) hC hinX4 hM rfl rfl 2 (by decide) (List.mem_cons_of_mem _ wF_X4_13) rfl dX4_found_27 ?_
    refine lv_iload_n (pc := 30) hx hb dX4_found_30 rfl (lv_at hl 2 rfl) ?_
    refine lv_iload_n (pc := 31) hx hb dX4_found_31 rfl (lv_at hl 0 rfl) ?_
    refine nf_iast (pc := 32) hC hM 0 rfl rfl nd rfl (by omega) (by decide) dX4_found_32 (fun H locs hM => ?_)
    refine lv_goto (pc := 33) (tgt := 54) hx hb dX4_found_33 (by decide) ?_
    refine lv_aload_n (pc := 54) hx hb dX4_found_54 rfl (lv_at hl 1 rfl) ?_
    refine nf_getr (pc := 55) hC hinX4 hM rfl rfl 6 (by decide) (List.mem_cons_of_mem _ wF_X4_26) rfl dX4_found_55 ?_
    refine lv_iload_n (pc := 58) hx hb dX4_found_58 rfl (lv_at hl 2 rfl) ?_
    refine lv_aload_n (pc := 59) hx hb dX4_found_59 rfl (lv_at hl 1 rfl) ?_
    refine nf_getr (pc := 60) hC hinX4 hM rfl rfl 20 (by decide) (List.mem_cons_of_mem _ wF_X4_59) rfl dX4_found_60 ?_
    refine lv_bipush (pc := 63) (v := 20) hx hb dX4_found_63 (by decide) ?_
    refine nf_iald (pc := 65) hC hM 0 rfl rfl 20 rfl (by omega) (by decide) dX4_found_65 ?_
    refine nf_iast (pc := 66) hC hM 0 rfl rfl nd rfl (by omega) (by decide) dX4_found_66 (fun H locs hM => ?_)
    exact hret _ _ _ _ _ _ _ (by rw [ys_foI, ys_fo1, if_pos h1]) rfl rfl hM dX4_found_67
set_option maxHeartbeats 4000000 in
set_option maxRecDepth 100000 in
theorem ct_X4_fetch {nd : Nat} (hr : I 20 0 13 = nI rwn) (hrw : rwn < 20) (hkp : I 20 0 7 = nI kp) (hk2 : kp ≤ 120) (hnd : nd < 256) : nf_Tv l yX4_fetch wsX4_fetch 1 24 D vwCl (xT cs) Bs (xS cs nn) ad [.ref (ad 20 0), .int (nI nd)] I J P (ys_feI I rwn) (ys_feJ I J kp nd rwn) P := by
  refine nf_enterv (cc := cX4_fetch) (maxL := 3) (by decide) rfl (Nat.le_of_ble_eq_true rfl) ?_
  intro p e s m below meth c ls Q hC hM hl hret
  have hx := hC.1.1
  have hb := hC.1.2.1
  have hl : lv_has ls 3 [(0, .ref (ad 20 0)), (1, .int (nI nd))] := hl
  have hinX4 : ∀ w ∈ u_ws RX4 TX4 22, w ∈ wsX4_fetch := fun w h => List.mem_cons_of_mem _ (inX4 w h)
  refine lv_aload_n (pc := 0) hx hb dX4_fetch_0 rfl (lv_at hl 0 rfl) ?_
  refine lv_iload_n (pc := 1) hx hb dX4_fetch_1 rfl (lv_at hl 1 rfl) ?_
  refine lv_aload_n (pc := 2) hx hb dX4_fetch_2 rfl (lv_at hl 0 rfl) ?_
  refine nf_getr (pc := 3) hC hinX4 hM rfl rfl 16 (by decide) (List.mem_cons_of_mem _ wF_X4_47) rfl dX4_fetch_3 ?_
  refine lv_bipush (pc := 6) (v := 20) hx hb dX4_fetch_6 (by decide) ?_
  refine nf_iald (pc := 8) hC hM 0 rfl rfl 20 rfl (by omega) (by decide) dX4_fetch_8 ?_
  refine nf_calli (pc := 9) (va_runV (As := [.int (nI nd), .int (I 33 0 20)]) (rest := []) hC.1 (ct_X4_entryAt (mb := (nI nd)) (wd := (I 33 0 20)) (kp := kp) hkp (by omega)) (cwV 2 hC.1.2.2.2.2 (gd_V wM_X4_99 wi_X4_entryAt wsel_X4_entryAt wini_X4 wcode_X4_entryAt) rfl rfl rfl (by decide +kernel) ⟨by decide, by decide⟩) (nf_preV hC hM rfl rfl) rfl rfl hl.1 rfl (lv_room (Nat.le_of_ble_eq_true rfl)) dX4_fetch_9 ⟨Nat.le_refl _, Nat.le_refl _⟩) hM (fun H locs hM => ?_)
  refine lv_istore_n (pc := 12) (lv' := [(2, .int (ys_eat I kp (nI nd) (I 33 0 20))), (0, .ref (ad 20 0)), (1, .int (nI nd))]) hx hb dX4_fetch_12 rfl hl (by decide) rfl (fun ls hl => ?_)
  refine lv_aload_n (pc := 13) hx hb dX4_fetch_13 rfl (lv_at hl 1 rfl) ?_
  refine lv_iconst (pc := 14) (v := 5) hx hb dX4_fetch_14 (by decide) ?_
  refine lv_aload_n (pc := 15) hx hb dX4_fetch_15 rfl (lv_at hl 1 rfl) ?_
  refine nf_getr (pc := 16) hC hinX4 hM rfl rfl 19 (by decide) (List.mem_cons_of_mem _ wF_X4_56) rfl dX4_fetch_16 ?_
  refine lv_bipush (pc := 19) (v := 20) hx hb dX4_fetch_19 (by decide) ?_
  refine nf_iald (pc := 21) hC hM 0 rfl rfl 20 rfl (by omega) (by decide) dX4_fetch_21 ?_
  refine lv_iconst (pc := 22) (v := 0) hx hb dX4_fetch_22 (by decide) ?_
  refine lv_iconst (pc := 23) (v := 0) hx hb dX4_fetch_23 (by decide) ?_
  refine nf_callv (pc := 24) (va_runV (As := [.int 5, .int (I 36 0 20), .int 0, .int 0]) (rest := []) hC.1 (ct_X4_post (kd := 5) (tz := (I 36 0 20)) (ky := 0) (ak := 0) (rwn := rwn) hr (by omega)) (cwV 4 hC.1.2.2.2.2 (gd_V wM_X4_79 wi_X4_post wsel_X4_post wini_X4 wcode_X4_post) rfl rfl rfl (by decide +kernel) ⟨by decide, by decide⟩) (nf_preV hC hM rfl rfl) rfl rfl hl.1 rfl (lv_room (Nat.le_of_ble_eq_true rfl)) dX4_fetch_24 ⟨Nat.le_refl _, Nat.le_refl _⟩) hM (fun H locs hM => ?_)
  refine lv_aload_n (pc := 27) hx hb dX4_fetch_27 rfl (lv_at hl 1 rfl) ?_
  refine nf_getr (pc := 28) hC hinX4 hM rfl rfl 21 (by decide) (List.mem_cons_of_mem _ wF_X4_62) rfl dX4_fetch_28 ?_
  refine lv_aload_n (pc := 31) hx hb dX4_fetch_31 rfl (lv_at hl 1 rfl) ?_
  refine nf_geti (pc := 32) hC hinX4 hM rfl rfl 13 (by decide) (List.mem_cons_of_mem _ wF_X4_75) rfl dX4_fetch_32 ?_
  refine lv_iconst (pc := 35) (v := 1) hx hb dX4_fetch_35 (by decide) ?_
  refine lv_isub (pc := 36) hx hb dX4_fetch_36 ?_
  refine lv_iload_n (pc := 37) hx hb dX4_fetch_37 rfl (lv_at hl 0 rfl) ?_
  refine lv_if_ge (pc := 38) (tgt := 47) hx hb dX4_fetch_38 (by decide) (fun h1 => ?_) (fun h1 => ?_)
  · skip
    obtain ⟨q, hq, hqe, -⟩ := (ys_eat_c I kp (nI nd) (I 33 0 20)).resolve_left (fun z => by rw [z] at h1; exact absurd h1 (by decide))
    refine lv_aload_n (pc := 47) hx hb dX4_fetch_47 rfl (lv_at hl 1 rfl) ?_
    refine nf_getr (pc := 48) hC hinX4 hM rfl rfl 10 (by decide) (List.mem_cons_of_mem _ wF_X4_35) rfl dX4_fetch_48 ?_
    refine lv_iload_n (pc := 51) hx hb dX4_fetch_51 rfl (lv_at hl 0 rfl) ?_
    refine nf_iald (pc := 52) hC hM 0 rfl rfl q hqe (by omega) (by decide) dX4_fetch_52 ?_
    refine lv_i2l (pc := 53) hx hb dX4_fetch_53 rfl ?_
    refine nf_last (pc := 54) hC hM 1 rfl rfl rwn (by simp [nf_iu, ys_po_row _ _ _ _ hr, nI_pred]) (by omega) (by decide) dX4_fetch_54 (fun H locs hM => ?_)
    refine lv_aload_n (pc := 55) hx hb dX4_fetch_55 rfl (lv_at hl 1 rfl) ?_
    refine nf_getr (pc := 56) hC hinX4 hM rfl rfl 20 (by decide) (List.mem_cons_of_mem _ wF_X4_59) rfl dX4_fetch_56 ?_
    refine lv_aload_n (pc := 59) hx hb dX4_fetch_59 rfl (lv_at hl 1 rfl) ?_
    refine nf_geti (pc := 60) hC hinX4 hM rfl rfl 13 (by decide) (List.mem_cons_of_mem _ wF_X4_75) rfl dX4_fetch_60 ?_
    refine lv_iconst (pc := 63) (v := 1) hx hb dX4_fetch_63 (by decide) ?_
    refine lv_isub (pc := 64) hx hb dX4_fetch_64 ?_
    refine lv_aload_n (pc := 65) hx hb dX4_fetch_65 rfl (lv_at hl 1 rfl) ?_
    refine nf_getr (pc := 66) hC hinX4 hM rfl rfl 20 (by decide) (List.mem_cons_of_mem _ wF_X4_59) rfl dX4_fetch_66 ?_
    refine lv_bipush (pc := 69) (v := 20) hx hb dX4_fetch_69 (by decide) ?_
    refine nf_iald (pc := 71) hC hM 0 rfl rfl 20 rfl (by omega) (by decide) dX4_fetch_71 ?_
    refine nf_iast (pc := 72) hC hM 0 rfl rfl rwn (by simp [nf_iu, ys_po_row _ _ _ _ hr, nI_pred]) (by omega) (by decide) dX4_fetch_72 (fun H locs hM => ?_)
    exact hret _ _ _ _ _ _ _ rfl (by rw [ys_feJ, if_pos h1, hqe, nI_clamp (by omega)]) rfl hM dX4_fetch_73
  · skip
    refine lv_ldc2 (pc := 41) (v := 4294967296) hx hb hC.1.2.2.2.1 (hC.1.2.2.2.2 _ (List.mem_cons_of_mem _ wC_X4_133)) dX4_fetch_41 ?_
    refine lv_goto (pc := 44) (tgt := 54) hx hb dX4_fetch_44 (by decide) ?_
    refine nf_last (pc := 54) hC hM 1 rfl rfl rwn (by simp [nf_iu, ys_po_row _ _ _ _ hr, nI_pred]) (by omega) (by decide) dX4_fetch_54 (fun H locs hM => ?_)
    refine lv_aload_n (pc := 55) hx hb dX4_fetch_55 rfl (lv_at hl 1 rfl) ?_
    refine nf_getr (pc := 56) hC hinX4 hM rfl rfl 20 (by decide) (List.mem_cons_of_mem _ wF_X4_59) rfl dX4_fetch_56 ?_
    refine lv_aload_n (pc := 59) hx hb dX4_fetch_59 rfl (lv_at hl 1 rfl) ?_
    refine nf_geti (pc := 60) hC hinX4 hM rfl rfl 13 (by decide) (List.mem_cons_of_mem _ wF_X4_75) rfl dX4_fetch_60 ?_
    refine lv_iconst (pc := 63) (v := 1) hx hb dX4_fetch_63 (by decide) ?_
    refine lv_isub (pc := 64) hx hb dX4_fetch_64 ?_
    refine lv_aload_n (pc := 65) hx hb dX4_fetch_65 rfl (lv_at hl 1 rfl) ?_
    refine nf_getr (pc := 66) hC hinX4 hM rfl rfl 20 (by decide) (List.mem_cons_of_mem _ wF_X4_59) rfl dX4_fetch_66 ?_
    refine lv_bipush (pc := 69) (v := 20) hx hb dX4_fetch_69 (by decide) ?_
    refine nf_iald (pc := 71) hC hM 0 rfl rfl 20 rfl (by omega) (by decide) dX4_fetch_71 ?_
    refine nf_iast (pc := 72) hC hM 0 rfl rfl rwn (by simp [nf_iu, ys_po_row _ _ _ _ hr, nI_pred]) (by omega) (by decide) dX4_fetch_72 (fun H locs hM => ?_)
    exact hret _ _ _ _ _ _ _ rfl (by rw [ys_feJ, if_neg h1]) rfl hM dX4_fetch_73
set_option maxHeartbeats 4000000 in
set_option maxRecDepth 100000 in
theorem ct_X4_tell {nd : Nat} (hr : I 20 0 13 = nI rwn) (hrw : rwn < 20) (hnd : nd < 256) : nf_Tv l yX4_tell wsX4_tell 2 46 D vwCl (xT cs) Bs (xS cs nn) ad [.ref (ad 20 0), .int (nI nd)] I J P (ys_teI I J nd rwn) (ys_poJ J rwn) P := by
  refine nf_enterv (cc := cX4_tell) (maxL := 3) (by decide) rfl (Nat.le_of_ble_eq_true rfl) ?_
  intro p e s m below meth c ls Q hC hM hl hret
  have hx := hC.1.1
  have hb := hC.1.2.1
  have hl : lv_has ls 3 [(0, .ref (ad 20 0)), (1, .int (nI nd))] := hl
  have hinX4 : ∀ w ∈ u_ws RX4 TX4 22, w ∈ wsX4_tell := fun w h => List.mem_cons_of_mem _ (inX4 w h)
  refine lv_aload_n (pc := 0) hx hb dX4_tell_0 rfl (lv_at hl 0 rfl) ?_
  refine nf_getr (pc := 1) hC hinX4 hM rfl rfl 21 (by decide) (List.mem_cons_of_mem _ wF_X4_62) rfl dX4_tell_1 ?_
  refine lv_bipush (pc := 4) (v := 20) hx hb dX4_tell_4 (by decide) ?_
  refine nf_lald (pc := 6) hC hM 1 rfl rfl 20 rfl (by omega) (by decide) dX4_tell_6 ?_
  refine lv_l2i (pc := 7) hx hb dX4_tell_7 rfl ?_
  refine lv_istore_n (pc := 8) (lv' := [(2, .int (((J 38 0 20)).toInt32)), (0, .ref (ad 20 0)), (1, .int (nI nd))]) hx hb dX4_tell_8 rfl hl (by decide) rfl (fun ls hl => ?_)
  refine lv_iload_n (pc := 9) hx hb dX4_tell_9 rfl (lv_at hl 0 rfl) ?_
  refine lv_iconst (pc := 10) (v := -1) hx hb dX4_tell_10 (by decide) ?_
  refine lv_icmp_eq (pc := 11) (tgt := 35) hx hb dX4_tell_11 (by decide) (fun h1 => ?_) (fun h1 => ?_)
  · skip
    refine lv_aload_n (pc := 35) hx hb dX4_tell_35 rfl (lv_at hl 1 rfl) ?_
    refine lv_bipush (pc := 36) (v := 8) hx hb dX4_tell_36 (by decide) ?_
    refine lv_aload_n (pc := 38) hx hb dX4_tell_38 rfl (lv_at hl 1 rfl) ?_
    refine nf_getr (pc := 39) hC hinX4 hM rfl rfl 2 (by decide) (List.mem_cons_of_mem _ wF_X4_13) rfl dX4_tell_39 ?_
    refine lv_iload_n (pc := 42) hx hb dX4_tell_42 rfl (lv_at hl 2 rfl) ?_
    refine nf_iald (pc := 43) hC hM 0 rfl rfl nd rfl (by omega) (by decide) dX4_tell_43 ?_
    refine lv_iconst (pc := 44) (v := 0) hx hb dX4_tell_44 (by decide) ?_
    refine lv_iload_n (pc := 45) hx hb dX4_tell_45 rfl (lv_at hl 2 rfl) ?_
    refine nf_callv (pc := 46) (va_runV (As := [.int 8, .int (I 22 0 nd), .int 0, .int (nI nd)]) (rest := []) hC.1 (ct_X4_post (kd := 8) (tz := (I 22 0 nd)) (ky := 0) (ak := (nI nd)) (rwn := rwn) (by simpa [nf_iu] using hr) (by omega)) (cwV 4 hC.1.2.2.2.2 (gd_V wM_X4_79 wi_X4_post wsel_X4_post wini_X4 wcode_X4_post) rfl rfl rfl (by decide +kernel) ⟨by decide, by decide⟩) (nf_preV hC hM rfl rfl) rfl rfl hl.1 rfl (lv_room (Nat.le_of_ble_eq_true rfl)) dX4_tell_46 ⟨Nat.le_refl _, Nat.le_refl _⟩) hM (fun H locs hM => ?_)
    exact hret _ _ _ _ _ _ _ (by simp [ys_teI, ys_teS, h1] <;> rfl) rfl rfl hM dX4_tell_49
  · skip
    refine lv_iload_n (pc := 14) hx hb dX4_tell_14 rfl (lv_at hl 0 rfl) ?_
    refine lv_iload_n (pc := 15) hx hb dX4_tell_15 rfl (lv_at hl 2 rfl) ?_
    refine lv_aload_n (pc := 16) hx hb dX4_tell_16 rfl (lv_at hl 1 rfl) ?_
    refine nf_getr (pc := 17) hC hinX4 hM rfl rfl 2 (by decide) (List.mem_cons_of_mem _ wF_X4_13) rfl dX4_tell_17 ?_
    refine lv_iload_n (pc := 20) hx hb dX4_tell_20 rfl (lv_at hl 2 rfl) ?_
    refine nf_iald (pc := 21) hC hM 0 rfl rfl nd rfl (by omega) (by decide) dX4_tell_21 ?_
    refine nf_calli (pc := 22) (va_runS (As := [.int (((J 38 0 20)).toInt32), .int (nI nd), .int (I 22 0 nd)]) (rest := []) hC.1 (ct_X4_between) (cwS 3 hC.1.2.2.2.2 (gd_S wM_X4_130 wst_X4_between wini_X4 wcode_X4_between) rfl rfl rfl (by decide +kernel) ⟨by decide, by decide⟩) (nf_preS hC hM) rfl rfl hl.1 rfl (lv_room (Nat.le_of_ble_eq_true rfl)) dX4_tell_22 ⟨Nat.le_refl _, Nat.le_refl _⟩) hM (fun H locs hM => ?_)
    refine lv_if_eq (pc := 25) (tgt := 35) hx hb dX4_tell_25 (by decide) (fun h2 => ?_) (fun h2 => ?_)
    · have h2 := nb_0 h2
      refine lv_aload_n (pc := 35) hx hb dX4_tell_35 rfl (lv_at hl 1 rfl) ?_
      refine lv_bipush (pc := 36) (v := 8) hx hb dX4_tell_36 (by decide) ?_
      refine lv_aload_n (pc := 38) hx hb dX4_tell_38 rfl (lv_at hl 1 rfl) ?_
      refine nf_getr (pc := 39) hC hinX4 hM rfl rfl 2 (by decide) (List.mem_cons_of_mem _ wF_X4_13) rfl dX4_tell_39 ?_
      refine lv_iload_n (pc := 42) hx hb dX4_tell_42 rfl (lv_at hl 2 rfl) ?_
      refine nf_iald (pc := 43) hC hM 0 rfl rfl nd rfl (by omega) (by decide) dX4_tell_43 ?_
      refine lv_iconst (pc := 44) (v := 0) hx hb dX4_tell_44 (by decide) ?_
      refine lv_iload_n (pc := 45) hx hb dX4_tell_45 rfl (lv_at hl 2 rfl) ?_
      refine nf_callv (pc := 46) (va_runV (As := [.int 8, .int (I 22 0 nd), .int 0, .int (nI nd)]) (rest := []) hC.1 (ct_X4_post (kd := 8) (tz := (I 22 0 nd)) (ky := 0) (ak := (nI nd)) (rwn := rwn) (by simpa [nf_iu] using hr) (by omega)) (cwV 4 hC.1.2.2.2.2 (gd_V wM_X4_79 wi_X4_post wsel_X4_post wini_X4 wcode_X4_post) rfl rfl rfl (by decide +kernel) ⟨by decide, by decide⟩) (nf_preV hC hM rfl rfl) rfl rfl hl.1 rfl (lv_room (Nat.le_of_ble_eq_true rfl)) dX4_tell_46 ⟨Nat.le_refl _, Nat.le_refl _⟩) hM (fun H locs hM => ?_)
      exact hret _ _ _ _ _ _ _ (by simp [ys_teI, ys_teS, h1, h2] <;> rfl) rfl rfl hM dX4_tell_49
    · have h2 := nb_1 h2
      refine lv_aload_n (pc := 28) hx hb dX4_tell_28 rfl (lv_at hl 1 rfl) ?_
      refine nf_getr (pc := 29) hC hinX4 hM rfl rfl 2 (by decide) (List.mem_cons_of_mem _ wF_X4_13) rfl dX4_tell_29 ?_
      refine lv_iload_n (pc := 32) hx hb dX4_tell_32 rfl (lv_at hl 2 rfl) ?_
      refine lv_iload_n (pc := 33) hx hb dX4_tell_33 rfl (lv_at hl 0 rfl) ?_
      refine nf_iast (pc := 34) hC hM 0 rfl rfl nd rfl (by omega) (by decide) dX4_tell_34 (fun H locs hM => ?_)
      refine lv_aload_n (pc := 35) hx hb dX4_tell_35 rfl (lv_at hl 1 rfl) ?_
      refine lv_bipush (pc := 36) (v := 8) hx hb dX4_tell_36 (by decide) ?_
      refine lv_aload_n (pc := 38) hx hb dX4_tell_38 rfl (lv_at hl 1 rfl) ?_
      refine nf_getr (pc := 39) hC hinX4 hM rfl rfl 2 (by decide) (List.mem_cons_of_mem _ wF_X4_13) rfl dX4_tell_39 ?_
      refine lv_iload_n (pc := 42) hx hb dX4_tell_42 rfl (lv_at hl 2 rfl) ?_
      refine nf_iald (pc := 43) hC hM 0 rfl rfl nd rfl (by omega) (by decide) dX4_tell_43 ?_
      refine lv_iconst (pc := 44) (v := 0) hx hb dX4_tell_44 (by decide) ?_
      refine lv_iload_n (pc := 45) hx hb dX4_tell_45 rfl (lv_at hl 2 rfl) ?_
      refine nf_callv (pc := 46) (va_runV (As := [.int 8, .int ((nf_iu I 22 0 nd (((J 38 0 20)).toInt32)) 22 0 nd), .int 0, .int (nI nd)]) (rest := []) hC.1 (ct_X4_post (kd := 8) (tz := ((nf_iu I 22 0 nd (((J 38 0 20)).toInt32)) 22 0 nd)) (ky := 0) (ak := (nI nd)) (rwn := rwn) (by simpa [nf_iu] using hr) (by omega)) (cwV 4 hC.1.2.2.2.2 (gd_V wM_X4_79 wi_X4_post wsel_X4_post wini_X4 wcode_X4_post) rfl rfl rfl (by decide +kernel) ⟨by decide, by decide⟩) (nf_preV hC hM rfl rfl) rfl rfl hl.1 rfl (lv_room (Nat.le_of_ble_eq_true rfl)) dX4_tell_46 ⟨Nat.le_refl _, Nat.le_refl _⟩) hM (fun H locs hM => ?_)
      exact hret _ _ _ _ _ _ _ (by simp [ys_teI, ys_teS, h1, h2] <;> rfl) rfl rfl hM dX4_tell_49
end YF
end
section
/-! The model: taking a message out, and what arrives. -/
def ys_sf (I : nf_I) (k j : Nat) : nf_I := fun a b c => if (31 ≤ a ∧ a ≤ 37) ∧ b = 0 ∧ k ≤ c ∧ c < j then I a b (c + 1) else I a b c
def ys_sfJ (J : nf_J) (k j : Nat) : nf_J := fun a b c => if a = 38 ∧ b = 0 ∧ k ≤ c ∧ c < j then J a b (c + 1) else J a b c
theorem ys_sf_0 (I : nf_I) (k : Nat) : ys_sf I k k = I := by
  funext a b c
  unfold ys_sf
  rw [if_neg (by omega)]
theorem ys_sfJ_0 (J : nf_J) (k : Nat) : ys_sfJ J k k = J := by
  funext a b c
  unfold ys_sfJ
  rw [if_neg (by omega)]
def ys_cpx (I : nf_I) (f a : Nat) : nf_I := fun x b c => if (31 ≤ x ∧ x ≤ 37) ∧ b = 0 ∧ c = a then I x b f else I x b c
theorem ys_cp_eq (I : nf_I) (f a : Nat) : ys_cp I f a = ys_cpx I f a := by
  funext x b c
  unfold ys_cp ys_cp1 ys_cpx
  by_cases hb : b = 0 ∧ c = a
  · obtain ⟨rfl, rfl⟩ := hb
    by_cases hx : 31 ≤ x ∧ x ≤ 37
    · rw [if_pos ⟨hx, rfl, rfl⟩]
      rcases (show x = 31 ∨ x = 32 ∨ x = 33 ∨ x = 34 ∨ x = 35 ∨ x = 36 ∨ x = 37 by omega) with rfl | rfl | rfl | rfl | rfl | rfl | rfl <;> simp [nf_iu]
    · rw [if_neg (fun h => hx h.1)]
      have : ¬ x = 31 ∧ ¬ x = 32 ∧ ¬ x = 33 ∧ ¬ x = 34 ∧ ¬ x = 35 ∧ ¬ x = 36 ∧ ¬ x = 37 := by omega
      simp [nf_iu, this]
  · rw [if_neg (fun h => hb h.2)]
    have : ∀ q, ¬ (x = q ∧ b = 0 ∧ c = a) := fun q h => hb h.2
    simp only [nf_iu, if_neg (this _)]
theorem ys_sf_s (I : nf_I) {k j : Nat} (h : k ≤ j) : ys_cp (ys_sf I k j) (j + 1) j = ys_sf I k (j + 1) := by
  rw [ys_cp_eq]
  funext a b c
  unfold ys_cpx ys_sf
  by_cases h1 : (31 ≤ a ∧ a ≤ 37) ∧ b = 0 ∧ c = j
  · obtain ⟨ha, rfl, rfl⟩ := h1
    rw [if_pos ⟨ha, rfl, rfl⟩, if_neg (by omega), if_pos (by omega)]
  · rw [if_neg h1]
    by_cases h2 : (31 ≤ a ∧ a ≤ 37) ∧ b = 0 ∧ k ≤ c ∧ c < j
    · rw [if_pos h2, if_pos (by omega)]
    · rw [if_neg h2, if_neg (by omega)]
theorem ys_sfJ_s (J : nf_J) {k j : Nat} (h : k ≤ j) : ys_cpJ (ys_sfJ J k j) (j + 1) j = ys_sfJ J k (j + 1) := by
  funext a b c
  unfold ys_cpJ nf_ju ys_sfJ
  by_cases h1 : a = 38 ∧ b = 0 ∧ c = j
  · obtain ⟨rfl, rfl, rfl⟩ := h1
    rw [if_pos ⟨rfl, rfl, rfl⟩, if_neg (by omega), if_pos (by omega)]
  · rw [if_neg h1]
    by_cases h2 : a = 38 ∧ b = 0 ∧ k ≤ c ∧ c < j
    · rw [if_pos h2, if_pos (by omega)]
    · rw [if_neg h2, if_neg (by omega)]
def ys_t1 (I : nf_I) (kn : Nat) : nf_I := nf_iu (ys_cp I kn 20) 20 0 13 (ys_cp I kn 20 20 0 13 - 1)
def ys_tkI (I : nf_I) (kn rwn : Nat) : nf_I := ys_sf (ys_t1 I kn) kn (rwn - 1)
def ys_tkJ (J : nf_J) (kn rwn : Nat) : nf_J := ys_sfJ (ys_cpJ J kn 20) kn (rwn - 1)
theorem ys_sf_o (I : nf_I) (k j a b c : Nat) (h : ¬ (31 ≤ a ∧ a ≤ 37)) : ys_sf I k j a b c = I a b c := by
  unfold ys_sf
  rw [if_neg (fun z => h z.1)]
theorem ys_cp_o (I : nf_I) (f t a b c : Nat) (h : ¬ (31 ≤ a ∧ a ≤ 37)) : ys_cp I f t a b c = I a b c := by
  rw [ys_cp_eq]
  unfold ys_cpx
  rw [if_neg (fun z => h z.1)]
theorem ys_t1_row {I : nf_I} {kn rwn : Nat} (hr : I 20 0 13 = nI rwn) (h : 0 < rwn) : ys_t1 I kn 20 0 13 = nI (rwn - 1) := by
  unfold ys_t1
  rw [nf_iu_s, ys_cp_row hr, show rwn = (rwn - 1) + 1 by omega, nI_pred]
  rfl
theorem ys_tk_row {I : nf_I} {kn rwn : Nat} (hr : I 20 0 13 = nI rwn) (h : 0 < rwn) : ys_tkI I kn rwn 20 0 13 = nI (rwn - 1) := by
  unfold ys_tkI
  rw [ys_sf_o _ _ _ _ _ _ (by omega), ys_t1_row hr h]
theorem ys_tk_o (I : nf_I) (kn rwn a b c : Nat) (h : ¬ (31 ≤ a ∧ a ≤ 37)) (h2 : ¬ (a = 20 ∧ b = 0 ∧ c = 13)) : ys_tkI I kn rwn a b c = I a b c := by
  unfold ys_tkI ys_t1
  rw [ys_sf_o _ _ _ _ _ _ h, nf_iu_n _ _ h2, ys_cp_o _ _ _ _ _ _ h]
def ys_F : Nat := 20000
def ys_aI (I : nf_I) (J : nf_J) (nd rwn kp : Nat) : nf_I := if I 31 0 20 = 1 then ys_fdI I nd rwn else if I 31 0 20 = 2 then ys_foI I J nd else if I 31 0 20 = 3 then ys_kp I kp (nI nd) (I 33 0 20) (J 38 0 20).toInt32 else if I 31 0 20 = 4 then ys_feI I rwn else if I 31 0 20 = 5 then nf_iu I 26 0 nd (I 37 0 20) else if I 31 0 20 = 6 then ys_po I rwn 7 (I 36 0 20) 0 0 else if I 31 0 20 = 7 then ys_teI I J nd rwn else ys_noI I nd ys_F
def ys_aJ (I : nf_I) (J : nf_J) (nd rwn kp : Nat) : nf_J := if I 31 0 20 = 1 then ys_fdJ I J nd rwn else if I 31 0 20 = 2 then J else if I 31 0 20 = 3 then J else if I 31 0 20 = 4 then ys_feJ I J kp nd rwn else if I 31 0 20 = 5 then nf_ju J 25 0 nd (J 38 0 20) else if I 31 0 20 = 6 then nf_ju (ys_poJ J rwn) 38 0 rwn (ys_po I rwn 7 (I 36 0 20) 0 0 23 0 nd).toInt64 else if I 31 0 20 = 7 then ys_poJ J rwn else J
/-- what the model needs of a taken message -/
def ys_may (I : nf_I) (kp nd : Nat) : Prop := nd < 256 ∧ I 32 0 20 = nI nd ∧ (I 31 0 20 = 2 → ¬ I 34 0 20 = 0 → ∃ pt : Nat, pt < 8 ∧ I 35 0 20 = nI pt) ∧ (I 31 0 20 = 3 → ¬ 0 ≤ ys_eat I kp (nI nd) (I 33 0 20) → kp < 120) ∧ (¬ I 31 0 20 = 1 → ¬ I 31 0 20 = 2 → ¬ I 31 0 20 = 3 → ¬ I 31 0 20 = 4 → ¬ I 31 0 20 = 5 → ¬ I 31 0 20 = 6 → ¬ I 31 0 20 = 7 → ys_hok (nI nd) (I 36 0 20) ys_F 0 (nf_iu I 23 0 nd (I 36 0 20)))
def ys_rwn (I : nf_I) : Nat := (I 20 0 13).toNatClampNeg
def ys_nd (I : nf_I) : Nat := (I 32 0 20).toNatClampNeg
def ys_arI (I : nf_I) (J : nf_J) (kn : Nat) : nf_I := ys_aI (ys_tkI I kn (ys_rwn I)) (ys_tkJ J kn (ys_rwn I)) (ys_nd (ys_tkI I kn (ys_rwn I))) (ys_rwn I - 1) (ys_kpn I)
def ys_arJ (I : nf_I) (J : nf_J) (kn : Nat) : nf_J := ys_aJ (ys_tkI I kn (ys_rwn I)) (ys_tkJ J kn (ys_rwn I)) (ys_nd (ys_tkI I kn (ys_rwn I))) (ys_rwn I - 1) (ys_kpn I)
def ys_dlR (I : nf_I) (k : Int32) : Int32 := if k < 0 then -1 else if k < I 20 0 13 then I 31 0 k.toNatClampNeg else -1
def ys_dlI (I : nf_I) (J : nf_J) (k : Int32) : nf_I := if k < 0 then I else if k < I 20 0 13 then ys_arI I J k.toNatClampNeg else I
def ys_dlJ (I : nf_I) (J : nf_J) (k : Int32) : nf_J := if k < 0 then J else if k < I 20 0 13 then ys_arJ I J k.toNatClampNeg else J
def ys_pu : Nat → Nat → nf_I → nf_J → Nat × nf_I × nf_J
  | 0, c, I, J => (c, I, J)
  | n + 1, c, I, J => if I 20 0 13 ≤ 0 then (c, I, J) else ys_pu n (c + 1) (ys_arI I J 0) (ys_arJ I J 0)
end
section
/-! The model: handOver, notified. -/
section YG
variable {l : Launch} {D : va_G} {cs : Nat → ClassId} {Bs nn rwn kp : Nat} {ad : nf_A} {I : nf_I} {J : nf_J} {P : nf_P}
set_option maxHeartbeats 4000000 in
set_option maxRecDepth 100000 in
theorem ct_X4_handOver {nv mv : Int32} {F : Nat} (hkp : I 20 0 7 = nI kp) (hk2 : kp ≤ 120) (hok0 : ys_hok nv mv F 0 I) : nf_Tv l yX4_handOver wsX4_handOver 2 48 D vwCl (xT cs) Bs (xS cs nn) ad [.ref (ad 20 0), .int nv, .int mv] I J P (ys_ho nv mv F 0 I) J P := by
  refine nf_enterv (cc := cX4_handOver) (maxL := 6) (by decide) rfl (Nat.le_of_ble_eq_true rfl) ?_
  intro p e s m below meth c ls Q hC hM hl hret
  have hx := hC.1.1
  have hb := hC.1.2.1
  have hl : lv_has ls 6 [(0, .ref (ad 20 0)), (1, .int nv), (2, .int mv)] := hl
  have hinX4 : ∀ w ∈ u_ws RX4 TX4 22, w ∈ wsX4_handOver := fun w h => List.mem_cons_of_mem _ (inX4 w h)
  obtain ⟨Z, hZ⟩ : ∃ Z, Z = ys_ho nv mv F 0 I := ⟨_, rfl⟩
  refine lv_iconst (pc := 0) (v := 0) hx hb dX4_handOver_0 (by decide) ?_
  refine lv_istore_n (pc := 1) (lv' := [(3, .int 0), (0, .ref (ad 20 0)), (1, .int nv), (2, .int mv)]) hx hb dX4_handOver_1 rfl hl (by decide) rfl (fun ls hl => ?_)
  have loop2 : ∀ (n : Nat) (f : Nat) (k : Nat) (I2 : nf_I) (kq : Nat) (ls : Array Slot) (H : Heap) (locs : List Loc), f < n → (I2 20 0 7 = nI kq) → (kq ≤ 120) → (ys_hok nv mv f k I2) → (Z = ys_ho nv mv f k I2) → (k ≤ 120) → nf_M D vwCl Bs (xS cs nn) ad I2 J P s.heap H locs → lv_has ls 6 [(3, .int (nI k)), (0, .ref (ad 20 0)), (1, .int nv), (2, .int mv)] → W p l e (nf_Rm 2 48) s m ([.ref (ad 20 0), .int nv, .int mv] : List Value).toArray below meth c H locs 0 0 Q (F0 m 2 ls []) := by
    intro n
    induction n with
    | zero => exact fun _ _ _ _ _ _ _ hmz => absurd hmz (Nat.not_lt_zero _)
    | succ n ihloop2 =>
      intro f k I2 kq ls H locs hmz hkp2 hkq hok hf hkk hM hl
      cases f with
      | zero => exact hok.elim
      | succ f =>
        have hkn : ys_kpn I2 = kq := by unfold ys_kpn; rw [hkp2, nI_clamp (by omega)]
        unfold ys_hok at hok
        unfold ys_ho at hf
        rw [hkn] at hok hf
        refine lv_iload_n (pc := 2) hx hb dX4_handOver_2 rfl (lv_at hl 0 rfl) ?_
        refine lv_aload_n (pc := 3) hx hb dX4_handOver_3 rfl (lv_at hl 1 rfl) ?_
        refine nf_geti (pc := 4) hC hinX4 hM rfl rfl 7 (by decide) (List.mem_cons_of_mem _ wF_X4_96) rfl dX4_handOver_4 ?_
        refine lv_icmp_ge (pc := 7) (tgt := 75) hx hb dX4_handOver_7 (by decide) (fun hh => ?_) (fun hh => ?_)
        · have hj1 : kq ≤ k := (nI_leI (by omega) (by omega)).mp (by rw [hkp2] at hh; exact hh)
          rw [if_pos hj1] at hf
          exact hret _ _ _ _ _ _ _ (hf.symm.trans hZ) rfl rfl hM dX4_handOver_75
        · have hj1 : k < kq := Nat.lt_of_not_le (fun z => hh (by rw [hkp2]; exact (nI_leI (by omega) (by omega)).mpr z))
          rw [if_neg (Nat.not_le.mpr hj1)] at hf hok
          refine lv_aload_n (pc := 10) hx hb dX4_handOver_10 rfl (lv_at hl 1 rfl) ?_
          refine nf_getr (pc := 11) hC hinX4 hM rfl rfl 8 (by decide) (List.mem_cons_of_mem _ wF_X4_29) rfl dX4_handOver_11 ?_
          refine lv_iload_n (pc := 14) hx hb dX4_handOver_14 rfl (lv_at hl 0 rfl) ?_
          refine nf_iald (pc := 15) hC hM 0 rfl rfl k rfl (by omega) (by decide) dX4_handOver_15 ?_
          refine lv_iload_n (pc := 16) hx hb dX4_handOver_16 rfl (lv_at hl 2 rfl) ?_
          refine lv_icmp_ne (pc := 17) (tgt := 69) hx hb dX4_handOver_17 (by decide) (fun h1 => ?_) (fun h1 => ?_)
          · skip
            rw [if_neg h1] at hf hok
            refine lv_iinc (pc := 69) (k := 0) (v := nI (k + 1)) (lv' := [(3, .int (nI (k + 1))), (0, .ref (ad 20 0)), (1, .int nv), (2, .int mv)]) hx hb dX4_handOver_69 hl rfl (nI_1 _) (by decide) rfl (fun ls hl => ?_)
            refine lv_goto (pc := 72) (tgt := 2) hx hb dX4_handOver_72 (by decide) ?_
            exact ihloop2 f (k + 1) I2 kq ls _ _ (by omega) hkp2 hkq hok hf (by omega) hM hl
          · skip
            rw [if_pos h1] at hf hok
            refine lv_aload_n (pc := 20) hx hb dX4_handOver_20 rfl (lv_at hl 1 rfl) ?_
            refine nf_getr (pc := 21) hC hinX4 hM rfl rfl 9 (by decide) (List.mem_cons_of_mem _ wF_X4_32) rfl dX4_handOver_21 ?_
            refine lv_iload_n (pc := 24) hx hb dX4_handOver_24 rfl (lv_at hl 0 rfl) ?_
            refine nf_iald (pc := 25) hC hM 0 rfl rfl k rfl (by omega) (by decide) dX4_handOver_25 ?_
            refine lv_iload_n (pc := 26) hx hb dX4_handOver_26 rfl (lv_at hl 3 rfl) ?_
            refine lv_iload_n (pc := 27) hx hb dX4_handOver_27 rfl (lv_at hl 2 rfl) ?_
            refine nf_calli (pc := 28) (va_runS (As := [.int (I2 28 0 k), .int mv, .int nv]) (rest := []) hC.1 (ct_X4_past) (cwS 3 hC.1.2.2.2.2 (gd_S wM_X4_71 wst_X4_past wini_X4 wcode_X4_past) rfl rfl rfl (by decide +kernel) ⟨by decide, by decide⟩) (nf_preS hC hM) rfl rfl hl.1 rfl (lv_room (Nat.le_of_ble_eq_true rfl)) dX4_handOver_28 ⟨Nat.le_refl _, Nat.le_refl _⟩) hM (fun H locs hM => ?_)
            refine lv_if_ne (pc := 31) (tgt := 69) hx hb dX4_handOver_31 (by decide) (fun h2 => ?_) (fun h2 => ?_)
            · have h2 := nb_1 h2
              rw [if_neg (by rw [h2]; decide)] at hf hok
              refine lv_iinc (pc := 69) (k := 0) (v := nI (k + 1)) (lv' := [(3, .int (nI (k + 1))), (0, .ref (ad 20 0)), (1, .int nv), (2, .int mv)]) hx hb dX4_handOver_69 hl rfl (nI_1 _) (by decide) rfl (fun ls hl => ?_)
              refine lv_goto (pc := 72) (tgt := 2) hx hb dX4_handOver_72 (by decide) ?_
              exact ihloop2 f (k + 1) I2 kq ls _ _ (by omega) hkp2 hkq hok hf (by omega) hM hl
            · have h2 := nb_0 h2
              rw [if_pos h2] at hf hok
              obtain ⟨kq2, hkq2, hkp3⟩ := ys_hs_kp (m := mv) hkp2 hkq hj1
              refine lv_aload_n (pc := 34) hx hb dX4_handOver_34 rfl (lv_at hl 1 rfl) ?_
              refine nf_getr (pc := 35) hC hinX4 hM rfl rfl 9 (by decide) (List.mem_cons_of_mem _ wF_X4_32) rfl dX4_handOver_35 ?_
              refine lv_iload_n (pc := 38) hx hb dX4_handOver_38 rfl (lv_at hl 0 rfl) ?_
              refine nf_iald (pc := 39) hC hM 0 rfl rfl k rfl (by omega) (by decide) dX4_handOver_39 ?_
              refine lv_istore (pc := 40) (lv' := [(4, .int (I2 28 0 k)), (3, .int (nI k)), (0, .ref (ad 20 0)), (1, .int nv), (2, .int mv)]) hx hb dX4_handOver_40 hl (by decide) rfl (fun ls hl => ?_)
              refine lv_aload_n (pc := 42) hx hb dX4_handOver_42 rfl (lv_at hl 2 rfl) ?_
              refine nf_getr (pc := 43) hC hinX4 hM rfl rfl 10 (by decide) (List.mem_cons_of_mem _ wF_X4_35) rfl dX4_handOver_43 ?_
              refine lv_iload_n (pc := 46) hx hb dX4_handOver_46 rfl (lv_at hl 1 rfl) ?_
              refine nf_iald (pc := 47) hC hM 0 rfl rfl k rfl (by omega) (by decide) dX4_handOver_47 ?_
              refine lv_istore (pc := 48) (lv' := [(5, .int (I2 29 0 k)), (4, .int (I2 28 0 k)), (3, .int (nI k)), (0, .ref (ad 20 0)), (1, .int nv), (2, .int mv)]) hx hb dX4_handOver_48 hl (by decide) rfl (fun ls hl => ?_)
              refine lv_aload_n (pc := 50) hx hb dX4_handOver_50 rfl (lv_at hl 3 rfl) ?_
              refine lv_iload_n (pc := 51) hx hb dX4_handOver_51 rfl (lv_at hl 2 rfl) ?_
              refine nf_callv (pc := 52) (va_runV (As := [.int (nI k)]) (rest := []) hC.1 (ct_X4_dropEntry (q := k) (kp := kq) hkp2 (by omega) (by omega)) (cwV 1 hC.1.2.2.2.2 (gd_V wM_X4_103 wi_X4_dropEntry wsel_X4_dropEntry wini_X4 wcode_X4_dropEntry) rfl rfl rfl (by decide +kernel) ⟨by decide, by decide⟩) (nf_preV hC hM rfl rfl) rfl rfl hl.1 rfl (lv_room (Nat.le_of_ble_eq_true rfl)) dX4_handOver_52 ⟨Nat.le_refl _, Nat.le_refl _⟩) hM (fun H locs hM => ?_)
              refine lv_aload_n (pc := 55) hx hb dX4_handOver_55 rfl (lv_at hl 3 rfl) ?_
              refine lv_iload_n (pc := 56) hx hb dX4_handOver_56 rfl (lv_at hl 5 rfl) ?_
              refine lv_iload (pc := 57) hx hb dX4_handOver_57 (lv_at hl 1 rfl) ?_
              refine lv_iload (pc := 59) hx hb dX4_handOver_59 (lv_at hl 0 rfl) ?_
              refine nf_callv (pc := 61) (va_runV (As := [.int mv, .int (I2 28 0 k), .int (I2 29 0 k)]) (rest := []) hC.1 (ct_X4_keep (mb := mv) (wd := (I2 28 0 k)) (v := (I2 29 0 k)) (kp := kq - 1) (ys_dr_kp hkp2 (by omega)) (by omega) (fun _ => by omega)) (cwV 3 hC.1.2.2.2.2 (gd_V wM_X4_107 wi_X4_keep wsel_X4_keep wini_X4 wcode_X4_keep) rfl rfl rfl (by decide +kernel) ⟨by decide, by decide⟩) (nf_preV hC hM rfl rfl) rfl rfl hl.1 rfl (lv_room (Nat.le_of_ble_eq_true rfl)) dX4_handOver_61 ⟨Nat.le_refl _, Nat.le_refl _⟩) hM (fun H locs hM => ?_)
              have hM : nf_M D vwCl Bs (xS cs nn) ad (ys_hs I2 mv k) J P s.heap H locs := by rw [ys_hs, hkn]; exact hM
              refine lv_iconst (pc := 64) (v := 0) hx hb dX4_handOver_64 (by decide) ?_
              refine lv_istore_n (pc := 65) (lv' := [(3, .int 0), (5, .int (I2 29 0 k)), (4, .int (I2 28 0 k)), (0, .ref (ad 20 0)), (1, .int nv), (2, .int mv)]) hx hb dX4_handOver_65 rfl hl (by decide) rfl (fun ls hl => ?_)
              refine lv_goto (pc := 66) (tgt := 2) hx hb dX4_handOver_66 (by decide) ?_
              exact ihloop2 f 0 (ys_hs I2 mv k) kq2 ls _ _ (by omega) hkp3 hkq2 hok hf (by omega) hM (lv_sub hl [0, 3, 4, 5] rfl)
  exact loop2 _ F 0 I kp ls _ _ (Nat.lt_succ_self _) hkp hk2 hok0 hZ (by omega) hM hl
set_option maxHeartbeats 4000000 in
set_option maxRecDepth 100000 in
theorem ct_X4_notified {nd : Nat} {F : Nat} (hkp : I 20 0 7 = nI kp) (hk2 : kp ≤ 120) (hnd : nd < 256) (hok0 : True → ys_hok (nI nd) (I 36 0 20) F 0 (nf_iu I 23 0 nd (I 36 0 20))) : nf_Tv l yX4_notified wsX4_notified 3 73 D vwCl (xT cs) Bs (xS cs nn) ad [.ref (ad 20 0), .int (nI nd)] I J P (ys_noI I nd F) J P := by
  refine nf_enterv (cc := cX4_notified) (maxL := 3) (by decide) rfl (Nat.le_of_ble_eq_true rfl) ?_
  intro p e s m below meth c ls Q hC hM hl hret
  have hx := hC.1.1
  have hb := hC.1.2.1
  have hl : lv_has ls 3 [(0, .ref (ad 20 0)), (1, .int (nI nd))] := hl
  have hinX4 : ∀ w ∈ u_ws RX4 TX4 22, w ∈ wsX4_notified := fun w h => List.mem_cons_of_mem _ (inX4 w h)
  refine lv_aload_n (pc := 0) hx hb dX4_notified_0 rfl (lv_at hl 0 rfl) ?_
  refine nf_getr (pc := 1) hC hinX4 hM rfl rfl 19 (by decide) (List.mem_cons_of_mem _ wF_X4_56) rfl dX4_notified_1 ?_
  refine lv_bipush (pc := 4) (v := 20) hx hb dX4_notified_4 (by decide) ?_
  refine nf_iald (pc := 6) hC hM 0 rfl rfl 20 rfl (by omega) (by decide) dX4_notified_6 ?_
  refine lv_istore_n (pc := 7) (lv' := [(2, .int (I 36 0 20)), (0, .ref (ad 20 0)), (1, .int (nI nd))]) hx hb dX4_notified_7 rfl hl (by decide) rfl (fun ls hl => ?_)
  refine lv_aload_n (pc := 8) hx hb dX4_notified_8 rfl (lv_at hl 1 rfl) ?_
  refine nf_getr (pc := 9) hC hinX4 hM rfl rfl 3 (by decide) (List.mem_cons_of_mem _ wF_X4_16) rfl dX4_notified_9 ?_
  refine lv_iload_n (pc := 12) hx hb dX4_notified_12 rfl (lv_at hl 2 rfl) ?_
  refine nf_iald (pc := 13) hC hM 0 rfl rfl nd rfl (by omega) (by decide) dX4_notified_13 ?_
  refine lv_iconst (pc := 14) (v := -1) hx hb dX4_notified_14 (by decide) ?_
  refine lv_icmp_eq (pc := 15) (tgt := 32) hx hb dX4_notified_15 (by decide) (fun h1 => ?_) (fun h1 => ?_)
  · skip
    refine lv_aload_n (pc := 32) hx hb dX4_notified_32 rfl (lv_at hl 1 rfl) ?_
    refine nf_getr (pc := 33) hC hinX4 hM rfl rfl 3 (by decide) (List.mem_cons_of_mem _ wF_X4_16) rfl dX4_notified_33 ?_
    refine lv_iload_n (pc := 36) hx hb dX4_notified_36 rfl (lv_at hl 2 rfl) ?_
    refine lv_iload_n (pc := 37) hx hb dX4_notified_37 rfl (lv_at hl 0 rfl) ?_
    refine nf_iast (pc := 38) hC hM 0 rfl rfl nd rfl (by omega) (by decide) dX4_notified_38 (fun H locs hM => ?_)
    refine lv_aload_n (pc := 39) hx hb dX4_notified_39 rfl (lv_at hl 1 rfl) ?_
    refine lv_iload_n (pc := 40) hx hb dX4_notified_40 rfl (lv_at hl 2 rfl) ?_
    refine lv_iload_n (pc := 41) hx hb dX4_notified_41 rfl (lv_at hl 0 rfl) ?_
    refine nf_callv (pc := 42) (va_runV (As := [.int (nI nd), .int (I 36 0 20)]) (rest := []) hC.1 (ct_X4_handOver (nv := (nI nd)) (mv := (I 36 0 20)) (F := F) (kp := kp) (by simpa [nf_iu] using hkp) hk2 (hok0 trivial)) (cwV 2 hC.1.2.2.2.2 (gd_V wM_X4_135 wi_X4_handOver wsel_X4_handOver wini_X4 wcode_X4_handOver) rfl rfl rfl (by decide +kernel) ⟨by decide, by decide⟩) (nf_preV hC hM rfl rfl) rfl rfl hl.1 rfl (lv_room (Nat.le_of_ble_eq_true rfl)) dX4_notified_42 ⟨Nat.le_refl _, Nat.le_refl _⟩) hM (fun H locs hM => ?_)
    exact hret _ _ _ _ _ _ _ (by simp [ys_noI, h1]) rfl rfl hM dX4_notified_45
  · skip
    refine lv_iload_n (pc := 18) hx hb dX4_notified_18 rfl (lv_at hl 0 rfl) ?_
    refine lv_aload_n (pc := 19) hx hb dX4_notified_19 rfl (lv_at hl 1 rfl) ?_
    refine nf_getr (pc := 20) hC hinX4 hM rfl rfl 3 (by decide) (List.mem_cons_of_mem _ wF_X4_16) rfl dX4_notified_20 ?_
    refine lv_iload_n (pc := 23) hx hb dX4_notified_23 rfl (lv_at hl 2 rfl) ?_
    refine nf_iald (pc := 24) hC hM 0 rfl rfl nd rfl (by omega) (by decide) dX4_notified_24 ?_
    refine lv_iload_n (pc := 25) hx hb dX4_notified_25 rfl (lv_at hl 2 rfl) ?_
    refine nf_calli (pc := 26) (va_runS (As := [.int (I 36 0 20), .int (I 23 0 nd), .int (nI nd)]) (rest := []) hC.1 (ct_X4_between) (cwS 3 hC.1.2.2.2.2 (gd_S wM_X4_130 wst_X4_between wini_X4 wcode_X4_between) rfl rfl rfl (by decide +kernel) ⟨by decide, by decide⟩) (nf_preS hC hM) rfl rfl hl.1 rfl (lv_room (Nat.le_of_ble_eq_true rfl)) dX4_notified_26 ⟨Nat.le_refl _, Nat.le_refl _⟩) hM (fun H locs hM => ?_)
    refine lv_if_eq (pc := 29) (tgt := 45) hx hb dX4_notified_29 (by decide) (fun h2 => ?_) (fun h2 => ?_)
    · have h2 := nb_0 h2
      exact hret _ _ _ _ _ _ _ (by simp [ys_noI, h1, h2]) rfl rfl hM dX4_notified_45
    · have h2 := nb_1 h2
      refine lv_aload_n (pc := 32) hx hb dX4_notified_32 rfl (lv_at hl 1 rfl) ?_
      refine nf_getr (pc := 33) hC hinX4 hM rfl rfl 3 (by decide) (List.mem_cons_of_mem _ wF_X4_16) rfl dX4_notified_33 ?_
      refine lv_iload_n (pc := 36) hx hb dX4_notified_36 rfl (lv_at hl 2 rfl) ?_
      refine lv_iload_n (pc := 37) hx hb dX4_notified_37 rfl (lv_at hl 0 rfl) ?_
      refine nf_iast (pc := 38) hC hM 0 rfl rfl nd rfl (by omega) (by decide) dX4_notified_38 (fun H locs hM => ?_)
      refine lv_aload_n (pc := 39) hx hb dX4_notified_39 rfl (lv_at hl 1 rfl) ?_
      refine lv_iload_n (pc := 40) hx hb dX4_notified_40 rfl (lv_at hl 2 rfl) ?_
      refine lv_iload_n (pc := 41) hx hb dX4_notified_41 rfl (lv_at hl 0 rfl) ?_
      refine nf_callv (pc := 42) (va_runV (As := [.int (nI nd), .int (I 36 0 20)]) (rest := []) hC.1 (ct_X4_handOver (nv := (nI nd)) (mv := (I 36 0 20)) (F := F) (kp := kp) (by simpa [nf_iu] using hkp) hk2 (hok0 trivial)) (cwV 2 hC.1.2.2.2.2 (gd_V wM_X4_135 wi_X4_handOver wsel_X4_handOver wini_X4 wcode_X4_handOver) rfl rfl rfl (by decide +kernel) ⟨by decide, by decide⟩) (nf_preV hC hM rfl rfl) rfl rfl hl.1 rfl (lv_room (Nat.le_of_ble_eq_true rfl)) dX4_notified_42 ⟨Nat.le_refl _, Nat.le_refl _⟩) hM (fun H locs hM => ?_)
      exact hret _ _ _ _ _ _ _ (by simp [ys_noI, h1, h2]) rfl rfl hM dX4_notified_45
end YG
end
section
/-! The model: arrive. -/
section YH
variable {l : Launch} {D : va_G} {cs : Nat → ClassId} {Bs nn rwn kp : Nat} {ad : nf_A} {I : nf_I} {J : nf_J} {P : nf_P}
set_option maxHeartbeats 4000000 in
set_option maxRecDepth 100000 in
theorem ct_X4_arrive {kn nd : Nat} (hr : I 20 0 13 = nI rwn) (hrw : rwn ≤ 20) (hkr : kn < rwn) (hkp : I 20 0 7 = nI kp) (hk2 : kp ≤ 120) (hmay : ys_may (ys_tkI I kn rwn) kp nd) : nf_Tv l yX4_arrive wsX4_arrive 4 95 D vwCl (xT cs) Bs (xS cs nn) ad [.ref (ad 20 0), .int (nI kn)] I J P (ys_aI (ys_tkI I kn rwn) (ys_tkJ J kn rwn) nd (rwn - 1) kp) (ys_aJ (ys_tkI I kn rwn) (ys_tkJ J kn rwn) nd (rwn - 1) kp) P := by
  refine nf_enterv (cc := cX4_arrive) (maxL := 3) (by decide) rfl (Nat.le_of_ble_eq_true rfl) ?_
  intro p e s m below meth c ls Q hC hM hl hret
  have hx := hC.1.1
  have hb := hC.1.2.1
  have hl : lv_has ls 3 [(0, .ref (ad 20 0)), (1, .int (nI kn))] := hl
  have hinX4 : ∀ w ∈ u_ws RX4 TX4 22, w ∈ wsX4_arrive := fun w h => List.mem_cons_of_mem _ (inX4 w h)
  refine lv_aload_n (pc := 0) hx hb dX4_arrive_0 rfl (lv_at hl 0 rfl) ?_
  refine lv_iload_n (pc := 1) hx hb dX4_arrive_1 rfl (lv_at hl 1 rfl) ?_
  refine lv_bipush (pc := 2) (v := 20) hx hb dX4_arrive_2 (by decide) ?_
  refine nf_callv (pc := 4) (va_runV (As := [.int (nI kn), .int (nI 20)]) (rest := []) hC.1 (ct_X4_copy (f := kn) (t := 20) (by omega) (by omega)) (cwV 2 hC.1.2.2.2.2 (gd_V wM_X4_111 wi_X4_copy wsel_X4_copy wini_X4 wcode_X4_copy) rfl rfl rfl (by decide +kernel) ⟨by decide, by decide⟩) (nf_preV hC hM rfl rfl) rfl rfl hl.1 (rfl) (lv_room (Nat.le_of_ble_eq_true rfl)) dX4_arrive_4 ⟨Nat.le_refl _, Nat.le_refl _⟩) hM (fun H locs hM => ?_)
  refine lv_aload_n (pc := 7) hx hb dX4_arrive_7 rfl (lv_at hl 0 rfl) ?_
  refine lv_dup (pc := 8) hx hb dX4_arrive_8 rfl ?_
  refine nf_geti (pc := 9) hC hinX4 hM rfl rfl 13 (by decide) (List.mem_cons_of_mem _ wF_X4_75) rfl dX4_arrive_9 ?_
  refine lv_iconst (pc := 12) (v := 1) hx hb dX4_arrive_12 (by decide) ?_
  refine lv_isub (pc := 13) hx hb dX4_arrive_13 ?_
  refine nf_puti (pc := 14) hC hinX4 tyX4 tyX4_ok nmX4 hM rfl rfl 13 (by decide) (List.mem_cons_of_mem _ wF_X4_75) rfl (by decide +kernel) rfl dX4_arrive_14 (fun H locs hM => ?_)
  have hM : nf_M D vwCl Bs (xS cs nn) ad (ys_sf (ys_t1 I kn) kn kn) (ys_sfJ (ys_cpJ J kn 20) kn kn) P s.heap H locs := by rw [ys_sf_0, ys_sfJ_0]; exact hM
  refine lv_iload_n (pc := 17) hx hb dX4_arrive_17 rfl (lv_at hl 1 rfl) ?_
  refine lv_istore_n (pc := 18) (lv' := [(2, .int (nI kn)), (0, .ref (ad 20 0)), (1, .int (nI kn))]) hx hb dX4_arrive_18 rfl hl (by decide) rfl (fun ls hl => ?_)
  have loop19 : ∀ (n : Nat) (j : Nat) (ls : Array Slot) (H : Heap) (locs : List Loc), rwn - j < n → (kn ≤ j) → (j ≤ rwn - 1) → nf_M D vwCl Bs (xS cs nn) ad (ys_sf (ys_t1 I kn) kn j) (ys_sfJ (ys_cpJ J kn 20) kn j) P s.heap H locs → lv_has ls 3 [(2, .int (nI j)), (0, .ref (ad 20 0)), (1, .int (nI kn))] → W p l e (nf_Rm 4 95) s m ([.ref (ad 20 0), .int (nI kn)] : List Value).toArray below meth c H locs 0 0 Q (F0 m 19 ls []) := by
    intro n
    induction n with
    | zero => exact fun _ _ _ _ hmz => absurd hmz (Nat.not_lt_zero _)
    | succ n ihloop19 =>
      intro j ls H locs hmz hkj hjn hM hl
      refine lv_iload_n (pc := 19) hx hb dX4_arrive_19 rfl (lv_at hl 0 rfl) ?_
      refine lv_aload_n (pc := 20) hx hb dX4_arrive_20 rfl (lv_at hl 1 rfl) ?_
      refine nf_geti (pc := 21) hC hinX4 hM rfl rfl 13 (by decide) (List.mem_cons_of_mem _ wF_X4_75) rfl dX4_arrive_21 ?_
      refine lv_icmp_ge (pc := 24) (tgt := 41) hx hb dX4_arrive_24 (by decide) (fun hh => ?_) (fun hh => ?_)
      · have hj1 : rwn - 1 ≤ j := (nI_leI (by omega) (by omega)).mp (by rw [(show ys_sf (ys_t1 I kn) kn j 20 0 13 = nI (rwn - 1) by rw [ys_sf_o _ _ _ _ _ _ (by omega)]; exact ys_t1_row hr (by omega))] at hh; exact hh)
        obtain rfl : j = rwn - 1 := by omega
        obtain ⟨I2, hI2⟩ : ∃ I2, I2 = ys_tkI I kn rwn := ⟨_, rfl⟩
        obtain ⟨J2, hJ2⟩ : ∃ J2, J2 = ys_tkJ J kn rwn := ⟨_, rfl⟩
        have hM : nf_M D vwCl Bs (xS cs nn) ad I2 J2 P s.heap H locs := by rw [hI2, hJ2]; exact hM
        rw [← hI2] at hmay
        obtain ⟨hnd, hto, hfo, hst, hno⟩ := hmay
        have hr2 : I2 20 0 13 = nI (rwn - 1) := by rw [hI2]; exact ys_tk_row hr (by omega)
        have hkp2 : I2 20 0 7 = nI kp := by rw [hI2, ys_tk_o _ _ _ _ _ _ (by omega) (by omega)]; exact hkp
        refine lv_aload_n (pc := 41) hx hb dX4_arrive_41 rfl (lv_at hl 1 rfl) ?_
        refine nf_getr (pc := 42) hC hinX4 hM rfl rfl 15 (by decide) (List.mem_cons_of_mem _ wF_X4_44) rfl dX4_arrive_42 ?_
        refine lv_bipush (pc := 45) (v := 20) hx hb dX4_arrive_45 (by decide) ?_
        refine nf_iald (pc := 47) hC hM 0 rfl rfl 20 rfl (by omega) (by decide) dX4_arrive_47 ?_
        refine lv_istore_n (pc := 48) (lv' := [(2, .int (I2 32 0 20)), (0, .ref (ad 20 0)), (1, .int (nI kn))]) hx hb dX4_arrive_48 rfl hl (by decide) rfl (fun ls hl => ?_)
        have hl : lv_has ls 3 [(2, .int (nI nd)), (0, .ref (ad 20 0)), (1, .int (nI kn))] := by rw [← hto]; exact hl
        refine lv_aload_n (pc := 49) hx hb dX4_arrive_49 rfl (lv_at hl 1 rfl) ?_
        refine nf_getr (pc := 50) hC hinX4 hM rfl rfl 14 (by decide) (List.mem_cons_of_mem _ wF_X4_41) rfl dX4_arrive_50 ?_
        refine lv_bipush (pc := 53) (v := 20) hx hb dX4_arrive_53 (by decide) ?_
        refine nf_iald (pc := 55) hC hM 0 rfl rfl 20 rfl (by omega) (by decide) dX4_arrive_55 ?_
        rcases nk_sw7 (I2 31 0 20) with hc | hc | hc | hc | hc | hc | hc | ⟨hc, hc1, hc2, hc3, hc4, hc5, hc6, hc7⟩
        · refine lv_tableIn (pc := 56) (off := 44) (tgt := 100) hx hb dX4_arrive_56 (by rw [hc]; decide) (by rw [hc]; decide) (by rw [hc]; decide) (by decide) ?_
          refine lv_aload_n (pc := 100) hx hb dX4_arrive_100 rfl (lv_at hl 1 rfl) ?_
          refine lv_iload_n (pc := 101) hx hb dX4_arrive_101 rfl (lv_at hl 0 rfl) ?_
          refine nf_callv (pc := 102) (va_runV (As := [.int (nI nd)]) (rest := []) hC.1 (ct_X4_find (nd := nd) (rwn := rwn - 1) hr2 (by omega) hnd) (cwV 1 hC.1.2.2.2.2 (gd_V wM_X4_115 wi_X4_find wsel_X4_find wini_X4 wcode_X4_find) rfl rfl rfl (by decide +kernel) ⟨by decide, by decide⟩) (nf_preV hC hM rfl rfl) rfl rfl hl.1 rfl (lv_room (Nat.le_of_ble_eq_true rfl)) dX4_arrive_102 ⟨Nat.le_refl _, Nat.le_refl _⟩) hM (fun H locs hM => ?_)
          refine lv_goto (pc := 105) (tgt := 225) hx hb dX4_arrive_105 (by decide) ?_
          exact hret _ _ _ _ _ _ _ (by rw [← hI2, ← hJ2]; simp [ys_aI, hj1, hc] <;> rfl) (by rw [← hI2, ← hJ2]; simp [ys_aJ, hj1, hc] <;> rfl) rfl hM dX4_arrive_225
        · refine lv_tableIn (pc := 56) (off := 52) (tgt := 108) hx hb dX4_arrive_56 (by rw [hc]; decide) (by rw [hc]; decide) (by rw [hc]; decide) (by decide) ?_
          refine lv_aload_n (pc := 108) hx hb dX4_arrive_108 rfl (lv_at hl 1 rfl) ?_
          refine lv_iload_n (pc := 109) hx hb dX4_arrive_109 rfl (lv_at hl 0 rfl) ?_
          refine nf_callv (pc := 110) (va_runV (As := [.int (nI nd)]) (rest := []) hC.1 (ct_X4_found (nd := nd) hnd (hfo hc)) (cwV 1 hC.1.2.2.2.2 (gd_V wM_X4_118 wi_X4_found wsel_X4_found wini_X4 wcode_X4_found) rfl rfl rfl (by decide +kernel) ⟨by decide, by decide⟩) (nf_preV hC hM rfl rfl) rfl rfl hl.1 rfl (lv_room (Nat.le_of_ble_eq_true rfl)) dX4_arrive_110 ⟨Nat.le_refl _, Nat.le_refl _⟩) hM (fun H locs hM => ?_)
          refine lv_goto (pc := 113) (tgt := 225) hx hb dX4_arrive_113 (by decide) ?_
          exact hret _ _ _ _ _ _ _ (by rw [← hI2, ← hJ2]; simp [ys_aI, hj1, hc] <;> rfl) (by rw [← hI2, ← hJ2]; simp [ys_aJ, hj1, hc] <;> rfl) rfl hM dX4_arrive_225
        · refine lv_tableIn (pc := 56) (off := 60) (tgt := 116) hx hb dX4_arrive_56 (by rw [hc]; decide) (by rw [hc]; decide) (by rw [hc]; decide) (by decide) ?_
          refine lv_aload_n (pc := 116) hx hb dX4_arrive_116 rfl (lv_at hl 1 rfl) ?_
          refine lv_iload_n (pc := 117) hx hb dX4_arrive_117 rfl (lv_at hl 0 rfl) ?_
          refine lv_aload_n (pc := 118) hx hb dX4_arrive_118 rfl (lv_at hl 1 rfl) ?_
          refine nf_getr (pc := 119) hC hinX4 hM rfl rfl 16 (by decide) (List.mem_cons_of_mem _ wF_X4_47) rfl dX4_arrive_119 ?_
          refine lv_bipush (pc := 122) (v := 20) hx hb dX4_arrive_122 (by decide) ?_
          refine nf_iald (pc := 124) hC hM 0 rfl rfl 20 rfl (by omega) (by decide) dX4_arrive_124 ?_
          refine lv_aload_n (pc := 125) hx hb dX4_arrive_125 rfl (lv_at hl 1 rfl) ?_
          refine nf_getr (pc := 126) hC hinX4 hM rfl rfl 21 (by decide) (List.mem_cons_of_mem _ wF_X4_62) rfl dX4_arrive_126 ?_
          refine lv_bipush (pc := 129) (v := 20) hx hb dX4_arrive_129 (by decide) ?_
          refine nf_lald (pc := 131) hC hM 1 rfl rfl 20 rfl (by omega) (by decide) dX4_arrive_131 ?_
          refine lv_l2i (pc := 132) hx hb dX4_arrive_132 rfl ?_
          refine nf_callv (pc := 133) (va_runV (As := [.int (nI nd), .int (I2 33 0 20), .int (((J2 38 0 20)).toInt32)]) (rest := []) hC.1 (ct_X4_keep (mb := (nI nd)) (wd := (I2 33 0 20)) (v := (((J2 38 0 20)).toInt32)) (kp := kp) hkp2 hk2 (hst hc)) (cwV 3 hC.1.2.2.2.2 (gd_V wM_X4_107 wi_X4_keep wsel_X4_keep wini_X4 wcode_X4_keep) rfl rfl rfl (by decide +kernel) ⟨by decide, by decide⟩) (nf_preV hC hM rfl rfl) rfl rfl hl.1 rfl (lv_room (Nat.le_of_ble_eq_true rfl)) dX4_arrive_133 ⟨Nat.le_refl _, Nat.le_refl _⟩) hM (fun H locs hM => ?_)
          refine lv_goto (pc := 136) (tgt := 225) hx hb dX4_arrive_136 (by decide) ?_
          exact hret _ _ _ _ _ _ _ (by rw [← hI2, ← hJ2]; simp [ys_aI, hj1, hc] <;> rfl) (by rw [← hI2, ← hJ2]; simp [ys_aJ, hj1, hc] <;> rfl) rfl hM dX4_arrive_225
        · refine lv_tableIn (pc := 56) (off := 83) (tgt := 139) hx hb dX4_arrive_56 (by rw [hc]; decide) (by rw [hc]; decide) (by rw [hc]; decide) (by decide) ?_
          refine lv_aload_n (pc := 139) hx hb dX4_arrive_139 rfl (lv_at hl 1 rfl) ?_
          refine lv_iload_n (pc := 140) hx hb dX4_arrive_140 rfl (lv_at hl 0 rfl) ?_
          refine nf_callv (pc := 141) (va_runV (As := [.int (nI nd)]) (rest := []) hC.1 (ct_X4_fetch (nd := nd) (rwn := rwn - 1) (kp := kp) hr2 (by omega) hkp2 hk2 hnd) (cwV 1 hC.1.2.2.2.2 (gd_V wM_X4_121 wi_X4_fetch wsel_X4_fetch wini_X4 wcode_X4_fetch) rfl rfl rfl (by decide +kernel) ⟨by decide, by decide⟩) (nf_preV hC hM rfl rfl) rfl rfl hl.1 rfl (lv_room (Nat.le_of_ble_eq_true rfl)) dX4_arrive_141 ⟨Nat.le_refl _, Nat.le_refl _⟩) hM (fun H locs hM => ?_)
          refine lv_goto (pc := 144) (tgt := 225) hx hb dX4_arrive_144 (by decide) ?_
          exact hret _ _ _ _ _ _ _ (by rw [← hI2, ← hJ2]; simp [ys_aI, hj1, hc] <;> rfl) (by rw [← hI2, ← hJ2]; simp [ys_aJ, hj1, hc] <;> rfl) rfl hM dX4_arrive_225
        · refine lv_tableIn (pc := 56) (off := 91) (tgt := 147) hx hb dX4_arrive_56 (by rw [hc]; decide) (by rw [hc]; decide) (by rw [hc]; decide) (by decide) ?_
          refine lv_aload_n (pc := 147) hx hb dX4_arrive_147 rfl (lv_at hl 1 rfl) ?_
          refine nf_getr (pc := 148) hC hinX4 hM rfl rfl 5 (by decide) (List.mem_cons_of_mem _ wF_X4_22) rfl dX4_arrive_148 ?_
          refine lv_iload_n (pc := 151) hx hb dX4_arrive_151 rfl (lv_at hl 0 rfl) ?_
          refine lv_aload_n (pc := 152) hx hb dX4_arrive_152 rfl (lv_at hl 1 rfl) ?_
          refine nf_getr (pc := 153) hC hinX4 hM rfl rfl 21 (by decide) (List.mem_cons_of_mem _ wF_X4_62) rfl dX4_arrive_153 ?_
          refine lv_bipush (pc := 156) (v := 20) hx hb dX4_arrive_156 (by decide) ?_
          refine nf_lald (pc := 158) hC hM 1 rfl rfl 20 rfl (by omega) (by decide) dX4_arrive_158 ?_
          refine nf_last (pc := 159) hC hM 1 rfl rfl nd rfl (by omega) (by decide) dX4_arrive_159 (fun H locs hM => ?_)
          refine lv_aload_n (pc := 160) hx hb dX4_arrive_160 rfl (lv_at hl 1 rfl) ?_
          refine nf_getr (pc := 161) hC hinX4 hM rfl rfl 6 (by decide) (List.mem_cons_of_mem _ wF_X4_26) rfl dX4_arrive_161 ?_
          refine lv_iload_n (pc := 164) hx hb dX4_arrive_164 rfl (lv_at hl 0 rfl) ?_
          refine lv_aload_n (pc := 165) hx hb dX4_arrive_165 rfl (lv_at hl 1 rfl) ?_
          refine nf_getr (pc := 166) hC hinX4 hM rfl rfl 20 (by decide) (List.mem_cons_of_mem _ wF_X4_59) rfl dX4_arrive_166 ?_
          refine lv_bipush (pc := 169) (v := 20) hx hb dX4_arrive_169 (by decide) ?_
          refine nf_iald (pc := 171) hC hM 0 rfl rfl 20 rfl (by omega) (by decide) dX4_arrive_171 ?_
          refine nf_iast (pc := 172) hC hM 0 rfl rfl nd rfl (by omega) (by decide) dX4_arrive_172 (fun H locs hM => ?_)
          refine lv_goto (pc := 173) (tgt := 225) hx hb dX4_arrive_173 (by decide) ?_
          exact hret _ _ _ _ _ _ _ (by rw [← hI2, ← hJ2]; simp [ys_aI, hj1, hc] <;> rfl) (by rw [← hI2, ← hJ2]; simp [ys_aJ, hj1, hc] <;> rfl) rfl hM dX4_arrive_225
        · refine lv_tableIn (pc := 56) (off := 120) (tgt := 176) hx hb dX4_arrive_56 (by rw [hc]; decide) (by rw [hc]; decide) (by rw [hc]; decide) (by decide) ?_
          refine lv_aload_n (pc := 176) hx hb dX4_arrive_176 rfl (lv_at hl 1 rfl) ?_
          refine lv_bipush (pc := 177) (v := 7) hx hb dX4_arrive_177 (by decide) ?_
          refine lv_aload_n (pc := 179) hx hb dX4_arrive_179 rfl (lv_at hl 1 rfl) ?_
          refine nf_getr (pc := 180) hC hinX4 hM rfl rfl 19 (by decide) (List.mem_cons_of_mem _ wF_X4_56) rfl dX4_arrive_180 ?_
          refine lv_bipush (pc := 183) (v := 20) hx hb dX4_arrive_183 (by decide) ?_
          refine nf_iald (pc := 185) hC hM 0 rfl rfl 20 rfl (by omega) (by decide) dX4_arrive_185 ?_
          refine lv_iconst (pc := 186) (v := 0) hx hb dX4_arrive_186 (by decide) ?_
          refine lv_iconst (pc := 187) (v := 0) hx hb dX4_arrive_187 (by decide) ?_
          refine nf_callv (pc := 188) (va_runV (As := [.int 7, .int (I2 36 0 20), .int 0, .int 0]) (rest := []) hC.1 (ct_X4_post (kd := 7) (tz := (I2 36 0 20)) (ky := 0) (ak := 0) (rwn := rwn - 1) hr2 (by omega)) (cwV 4 hC.1.2.2.2.2 (gd_V wM_X4_79 wi_X4_post wsel_X4_post wini_X4 wcode_X4_post) rfl rfl rfl (by decide +kernel) ⟨by decide, by decide⟩) (nf_preV hC hM rfl rfl) rfl rfl hl.1 rfl (lv_room (Nat.le_of_ble_eq_true rfl)) dX4_arrive_188 ⟨Nat.le_refl _, Nat.le_refl _⟩) hM (fun H locs hM => ?_)
          refine lv_aload_n (pc := 191) hx hb dX4_arrive_191 rfl (lv_at hl 1 rfl) ?_
          refine nf_getr (pc := 192) hC hinX4 hM rfl rfl 21 (by decide) (List.mem_cons_of_mem _ wF_X4_62) rfl dX4_arrive_192 ?_
          refine lv_aload_n (pc := 195) hx hb dX4_arrive_195 rfl (lv_at hl 1 rfl) ?_
          refine nf_geti (pc := 196) hC hinX4 hM rfl rfl 13 (by decide) (List.mem_cons_of_mem _ wF_X4_75) rfl dX4_arrive_196 ?_
          refine lv_iconst (pc := 199) (v := 1) hx hb dX4_arrive_199 (by decide) ?_
          refine lv_isub (pc := 200) hx hb dX4_arrive_200 ?_
          refine lv_aload_n (pc := 201) hx hb dX4_arrive_201 rfl (lv_at hl 1 rfl) ?_
          refine nf_getr (pc := 202) hC hinX4 hM rfl rfl 3 (by decide) (List.mem_cons_of_mem _ wF_X4_16) rfl dX4_arrive_202 ?_
          refine lv_iload_n (pc := 205) hx hb dX4_arrive_205 rfl (lv_at hl 0 rfl) ?_
          refine nf_iald (pc := 206) hC hM 0 rfl rfl nd rfl (by omega) (by decide) dX4_arrive_206 ?_
          refine lv_i2l (pc := 207) hx hb dX4_arrive_207 rfl ?_
          refine nf_last (pc := 208) hC hM 1 rfl rfl (rwn - 1) (by rw [ys_po_row _ _ _ _ hr2, nI_pred]) (by omega) (by decide) dX4_arrive_208 (fun H locs hM => ?_)
          refine lv_goto (pc := 209) (tgt := 225) hx hb dX4_arrive_209 (by decide) ?_
          exact hret _ _ _ _ _ _ _ (by rw [← hI2, ← hJ2]; simp [ys_aI, hj1, hc] <;> rfl) (by rw [← hI2, ← hJ2]; simp [ys_aJ, hj1, hc] <;> rfl) rfl hM dX4_arrive_225
        · refine lv_tableIn (pc := 56) (off := 156) (tgt := 212) hx hb dX4_arrive_56 (by rw [hc]; decide) (by rw [hc]; decide) (by rw [hc]; decide) (by decide) ?_
          refine lv_aload_n (pc := 212) hx hb dX4_arrive_212 rfl (lv_at hl 1 rfl) ?_
          refine lv_iload_n (pc := 213) hx hb dX4_arrive_213 rfl (lv_at hl 0 rfl) ?_
          refine nf_callv (pc := 214) (va_runV (As := [.int (nI nd)]) (rest := []) hC.1 (ct_X4_tell (nd := nd) (rwn := rwn - 1) hr2 (by omega) hnd) (cwV 1 hC.1.2.2.2.2 (gd_V wM_X4_124 wi_X4_tell wsel_X4_tell wini_X4 wcode_X4_tell) rfl rfl rfl (by decide +kernel) ⟨by decide, by decide⟩) (nf_preV hC hM rfl rfl) rfl rfl hl.1 rfl (lv_room (Nat.le_of_ble_eq_true rfl)) dX4_arrive_214 ⟨Nat.le_refl _, Nat.le_refl _⟩) hM (fun H locs hM => ?_)
          refine lv_goto (pc := 217) (tgt := 225) hx hb dX4_arrive_217 (by decide) ?_
          exact hret _ _ _ _ _ _ _ (by rw [← hI2, ← hJ2]; simp [ys_aI, hj1, hc] <;> rfl) (by rw [← hI2, ← hJ2]; simp [ys_aJ, hj1, hc] <;> rfl) rfl hM dX4_arrive_225
        · refine lv_tableOut (pc := 56) (tgt := 220) hx hb dX4_arrive_56 hc (by decide) ?_
          refine lv_aload_n (pc := 220) hx hb dX4_arrive_220 rfl (lv_at hl 1 rfl) ?_
          refine lv_iload_n (pc := 221) hx hb dX4_arrive_221 rfl (lv_at hl 0 rfl) ?_
          refine nf_callv (pc := 222) (va_runV (As := [.int (nI nd)]) (rest := []) hC.1 (ct_X4_notified (nd := nd) (F := ys_F) (kp := kp) hkp2 hk2 hnd (fun _ => hno hc1 hc2 hc3 hc4 hc5 hc6 hc7)) (cwV 1 hC.1.2.2.2.2 (gd_V wM_X4_127 wi_X4_notified wsel_X4_notified wini_X4 wcode_X4_notified) rfl rfl rfl (by decide +kernel) ⟨by decide, by decide⟩) (nf_preV hC hM rfl rfl) rfl rfl hl.1 rfl (lv_room (Nat.le_of_ble_eq_true rfl)) dX4_arrive_222 ⟨Nat.le_refl _, Nat.le_refl _⟩) hM (fun H locs hM => ?_)
          exact hret _ _ _ _ _ _ _ (by rw [← hI2, ← hJ2]; simp [ys_aI, hj1, hc1, hc2, hc3, hc4, hc5, hc6, hc7] <;> rfl) (by rw [← hI2, ← hJ2]; simp [ys_aJ, hj1, hc1, hc2, hc3, hc4, hc5, hc6, hc7] <;> rfl) rfl hM dX4_arrive_225
      · have hj1 : j < rwn - 1 := Nat.lt_of_not_le (fun z => hh (by rw [(show ys_sf (ys_t1 I kn) kn j 20 0 13 = nI (rwn - 1) by rw [ys_sf_o _ _ _ _ _ _ (by omega)]; exact ys_t1_row hr (by omega))]; exact (nI_leI (by omega) (by omega)).mpr z))
        refine lv_aload_n (pc := 27) hx hb dX4_arrive_27 rfl (lv_at hl 1 rfl) ?_
        refine lv_iload_n (pc := 28) hx hb dX4_arrive_28 rfl (lv_at hl 0 rfl) ?_
        refine lv_iconst (pc := 29) (v := 1) hx hb dX4_arrive_29 (by decide) ?_
        refine lv_iadd (pc := 30) hx hb dX4_arrive_30 ?_
        refine lv_iload_n (pc := 31) hx hb dX4_arrive_31 rfl (lv_at hl 0 rfl) ?_
        refine nf_callv (pc := 32) (va_runV (As := [.int (nI (j + 1)), .int (nI j)]) (rest := []) hC.1 (ct_X4_copy (f := j + 1) (t := j) (by omega) (by omega)) (cwV 2 hC.1.2.2.2.2 (gd_V wM_X4_111 wi_X4_copy wsel_X4_copy wini_X4 wcode_X4_copy) rfl rfl rfl (by decide +kernel) ⟨by decide, by decide⟩) (nf_preV hC hM rfl rfl) rfl rfl hl.1 (by rw [nI_1]; rfl) (lv_room (Nat.le_of_ble_eq_true rfl)) dX4_arrive_32 ⟨Nat.le_refl _, Nat.le_refl _⟩) hM (fun H locs hM => ?_)
        rw [ys_sf_s _ hkj, ys_sfJ_s _ hkj] at hM
        refine lv_iinc (pc := 35) (k := 0) (v := nI (j + 1)) (lv' := [(2, .int (nI (j + 1))), (0, .ref (ad 20 0)), (1, .int (nI kn))]) hx hb dX4_arrive_35 hl rfl (nI_1 _) (by decide) rfl (fun ls hl => ?_)
        refine lv_goto (pc := 38) (tgt := 19) hx hb dX4_arrive_38 (by decide) ?_
        exact ihloop19 (j + 1) ls _ _ (by omega) (by omega) (by omega) hM hl
  exact loop19 _ kn ls _ _ (Nat.lt_succ_self _) (Nat.le_refl _) (by omega) hM hl
end YH
end
section
/-! pump and deliver, as functions. -/
theorem nk_n8 {x : Int32} (h1 : ¬ x < 1) (h2 : x ≤ 8) : ∃ N : Nat, 1 ≤ N ∧ N ≤ 8 ∧ x = nI N := by
  have b := Int32.le_iff_toInt_le.mp h2
  have e8 : (8 : Int32).toInt = 8 := by decide +kernel
  have e1 : (1 : Int32).toInt = 1 := by decide +kernel
  have a : ¬ x.toInt < 1 := fun z => h1 (Int32.lt_iff_toInt_lt.mpr (by omega))
  refine ⟨x.toInt.toNat, by omega, by omega, Int32.toInt_inj.mp ?_⟩
  rw [nI_toInt (by omega)]
  omega
theorem ys_rwn_e {I : nf_I} {q : Nat} (h : I 20 0 13 = nI q) (hq : q < 2 ^ 31) : ys_rwn I = q := by
  unfold ys_rwn
  rw [h, nI_clamp hq]
theorem ys_kpn_e {I : nf_I} {q : Nat} (h : I 20 0 7 = nI q) (hq : q < 2 ^ 31) : ys_kpn I = q := by
  unfold ys_kpn
  rw [h, nI_clamp hq]
def ys_puR (I : nf_I) (J : nf_J) (n : Int32) : Int32 := if n < 1 then -1 else if n ≤ 8 then nI (ys_pu n.toNatClampNeg 0 I J).1 else -1
def ys_puI (I : nf_I) (J : nf_J) (n : Int32) : nf_I := if n < 1 then I else if n ≤ 8 then (ys_pu n.toNatClampNeg 0 I J).2.1 else I
def ys_puJ (I : nf_I) (J : nf_J) (n : Int32) : nf_J := if n < 1 then J else if n ≤ 8 then (ys_pu n.toNatClampNeg 0 I J).2.2 else J
def xs_pu (nn kc : Nat) : Nat → Nat → nf_I → nf_J → (Nat → Nat) → Nat × nf_I × nf_J × (Nat → Nat)
  | 0, c, I, J, mp => (c, I, J, mp)
  | n + 1, c, I, J, mp => if (xs_arr I J mp nn kc 0).1 = -1 then (c, (xs_arr I J mp nn kc 0).2.1, (xs_arr I J mp nn kc 0).2.2.1, (xs_arr I J mp nn kc 0).2.2.2) else xs_pu nn kc n (c + 1) (xs_arr I J mp nn kc 0).2.1 (xs_arr I J mp nn kc 0).2.2.1 (xs_arr I J mp nn kc 0).2.2.2
def xs_puR (I : nf_I) (J : nf_J) (mp : Nat → Nat) (nn kc : Nat) (n : Int32) : Int32 := if n < 1 then -1 else if n ≤ 8 then nI (xs_pu nn kc n.toNatClampNeg 0 I J mp).1 else -1
def xs_puI (I : nf_I) (J : nf_J) (mp : Nat → Nat) (nn kc : Nat) (n : Int32) : nf_I := if n < 1 then I else if n ≤ 8 then (xs_pu nn kc n.toNatClampNeg 0 I J mp).2.1 else I
def xs_puJ (I : nf_I) (J : nf_J) (mp : Nat → Nat) (nn kc : Nat) (n : Int32) : nf_J := if n < 1 then J else if n ≤ 8 then (xs_pu nn kc n.toNatClampNeg 0 I J mp).2.2.1 else J
def xs_puM (I : nf_I) (J : nf_J) (mp : Nat → Nat) (nn kc : Nat) (n : Int32) : Nat → Nat := if n < 1 then mp else if n ≤ 8 then (xs_pu nn kc n.toNatClampNeg 0 I J mp).2.2.2 else mp
end
section
/-! The model: deliver, pump. -/
section YI
variable {l : Launch} {D : va_G} {cs : Nat → ClassId} {Bs nn rwn kp : Nat} {ad : nf_A} {I : nf_I} {J : nf_J} {P : nf_P}
set_option maxHeartbeats 4000000 in
set_option maxRecDepth 100000 in
theorem ct_X4_deliver {k : Int32} (hr : I 20 0 13 = nI rwn) (hrw : rwn ≤ 20) (hkp : I 20 0 7 = nI kp) (hk2 : kp ≤ 120) (hmay : ∀ kn : Nat, kn < rwn → k = nI kn → ys_may (ys_tkI I kn rwn) kp (ys_nd (ys_tkI I kn rwn))) : nf_Ti l yX4_deliver wsX4_deliver 5 117 D vwCl (xT cs) Bs (xS cs nn) ad [.ref (ad 20 0), .int k] I J P (ys_dlR I k) (ys_dlI I J k) (ys_dlJ I J k) P := by
  refine nf_enteri (cc := cX4_deliver) (maxL := 3) (by decide) rfl (Nat.le_of_ble_eq_true rfl) ?_
  intro p e s m below meth c ls Q hC hM hl hret
  have hx := hC.1.1
  have hb := hC.1.2.1
  have hl : lv_has ls 3 [(0, .ref (ad 20 0)), (1, .int k)] := hl
  have hinX4 : ∀ w ∈ u_ws RX4 TX4 22, w ∈ wsX4_deliver := fun w h => List.mem_cons_of_mem _ (inX4 w h)
  refine lv_iload_n (pc := 0) hx hb dX4_deliver_0 rfl (lv_at hl 1 rfl) ?_
  refine lv_if_lt (pc := 1) (tgt := 12) hx hb dX4_deliver_1 (by decide) (fun h1 => ?_) (fun h1 => ?_)
  · skip
    refine lv_iconst (pc := 12) (v := -1) hx hb dX4_deliver_12 (by decide) ?_
    exact hret _ _ _ _ _ _ _ _ (by simp [ys_dlR, h1]) (by simp [ys_dlI, h1]) (by simp [ys_dlJ, h1]) rfl hM dX4_deliver_13
  · skip
    refine lv_iload_n (pc := 4) hx hb dX4_deliver_4 rfl (lv_at hl 1 rfl) ?_
    refine lv_aload_n (pc := 5) hx hb dX4_deliver_5 rfl (lv_at hl 0 rfl) ?_
    refine nf_geti (pc := 6) hC hinX4 hM rfl rfl 13 (by decide) (List.mem_cons_of_mem _ wF_X4_75) rfl dX4_deliver_6 ?_
    refine lv_icmp_lt (pc := 9) (tgt := 14) hx hb dX4_deliver_9 (by decide) (fun h2 => ?_) (fun h2 => ?_)
    · skip
      obtain ⟨kn, hkn, hkne⟩ := nk_ix2 h1 (by rw [← hr]; exact h2) (by omega)
      have hmy := hmay kn hkn hkne
      refine lv_aload_n (pc := 14) hx hb dX4_deliver_14 rfl (lv_at hl 0 rfl) ?_
      refine nf_getr (pc := 15) hC hinX4 hM rfl rfl 14 (by decide) (List.mem_cons_of_mem _ wF_X4_41) rfl dX4_deliver_15 ?_
      refine lv_iload_n (pc := 18) hx hb dX4_deliver_18 rfl (lv_at hl 1 rfl) ?_
      refine nf_iald (pc := 19) hC hM 0 rfl rfl kn hkne (by omega) (by decide) dX4_deliver_19 ?_
      refine lv_istore_n (pc := 20) (lv' := [(2, .int (I 31 0 kn)), (0, .ref (ad 20 0)), (1, .int k)]) hx hb dX4_deliver_20 rfl hl (by decide) rfl (fun ls hl => ?_)
      refine lv_aload_n (pc := 21) hx hb dX4_deliver_21 rfl (lv_at hl 1 rfl) ?_
      refine lv_iload_n (pc := 22) hx hb dX4_deliver_22 rfl (lv_at hl 2 rfl) ?_
      refine nf_callv (pc := 23) (va_runV (As := [.int (nI kn)]) (rest := []) hC.1 (ct_X4_arrive (kn := kn) (rwn := rwn) (kp := kp) hr hrw hkn hkp hk2 hmy) (cwV 1 hC.1.2.2.2.2 (gd_V wM_X4_138 wi_X4_arrive wsel_X4_arrive wini_X4 wcode_X4_arrive) rfl rfl rfl (by decide +kernel) ⟨by decide, by decide⟩) (nf_preV hC hM rfl rfl) rfl rfl hl.1 (by rw [hkne]; rfl) (lv_room (Nat.le_of_ble_eq_true rfl)) dX4_deliver_23 ⟨Nat.le_refl _, Nat.le_refl _⟩) hM (fun H locs hM => ?_)
      have hM : nf_M D vwCl Bs (xS cs nn) ad (ys_arI I J kn) (ys_arJ I J kn) P s.heap H locs := by rw [ys_arI, ys_arJ, ys_rwn_e hr (by omega), ys_kpn_e hkp (by omega)]; exact hM
      refine lv_iload_n (pc := 26) hx hb dX4_deliver_26 rfl (lv_at hl 0 rfl) ?_
      exact hret _ _ _ _ _ _ _ _ (by rw [ys_dlR, if_neg h1, if_pos h2, hkne, nI_clamp (by omega)]) (by rw [ys_dlI, if_neg h1, if_pos h2, hkne, nI_clamp (by omega)]) (by rw [ys_dlJ, if_neg h1, if_pos h2, hkne, nI_clamp (by omega)]) rfl hM dX4_deliver_27
    · skip
      refine lv_iconst (pc := 12) (v := -1) hx hb dX4_deliver_12 (by decide) ?_
      exact hret _ _ _ _ _ _ _ _ (by simp [ys_dlR, h1, h2]) (by simp [ys_dlI, h1, h2]) (by simp [ys_dlJ, h1, h2]) rfl hM dX4_deliver_13
set_option maxHeartbeats 4000000 in
set_option maxRecDepth 100000 in
theorem ct_X4_pump {pn : Int32} {Inv : nf_I → nf_J → Prop} (hinv0 : Inv I J) (hstep : ∀ (I : nf_I) (J : nf_J), Inv I J → ∃ rwn kp : Nat, rwn ≤ 20 ∧ kp ≤ 120 ∧ I 20 0 13 = nI rwn ∧ I 20 0 7 = nI kp ∧ (0 < rwn → ys_may (ys_tkI I 0 rwn) kp (ys_nd (ys_tkI I 0 rwn)) ∧ Inv (ys_arI I J 0) (ys_arJ I J 0))) : nf_Ti l yX4_pump wsX4_pump 5 117 D vwCl (xT cs) Bs (xS cs nn) ad [.ref (ad 20 0), .int pn] I J P (ys_puR I J pn) (ys_puI I J pn) (ys_puJ I J pn) P := by
  refine nf_enteri (cc := cX4_pump) (maxL := 3) (by decide) rfl (Nat.le_of_ble_eq_true rfl) ?_
  intro p e s m below meth c ls Q hC hM hl hret
  have hx := hC.1.1
  have hb := hC.1.2.1
  have hl : lv_has ls 3 [(0, .ref (ad 20 0)), (1, .int pn)] := hl
  have hinX4 : ∀ w ∈ u_ws RX4 TX4 22, w ∈ wsX4_pump := fun w h => List.mem_cons_of_mem _ (inX4 w h)
  refine lv_iload_n (pc := 0) hx hb dX4_pump_0 rfl (lv_at hl 1 rfl) ?_
  refine lv_iconst (pc := 1) (v := 1) hx hb dX4_pump_1 (by decide) ?_
  refine lv_icmp_lt (pc := 2) (tgt := 11) hx hb dX4_pump_2 (by decide) (fun h1 => ?_) (fun h1 => ?_)
  · skip
    refine lv_iconst (pc := 11) (v := -1) hx hb dX4_pump_11 (by decide) ?_
    exact hret _ _ _ _ _ _ _ _ (by simp [ys_puR, h1]) (by simp [ys_puI, h1]) (by simp [ys_puJ, h1]) rfl hM dX4_pump_12
  · skip
    refine lv_iload_n (pc := 5) hx hb dX4_pump_5 rfl (lv_at hl 1 rfl) ?_
    refine lv_bipush (pc := 6) (v := 8) hx hb dX4_pump_6 (by decide) ?_
    refine lv_icmp_le (pc := 8) (tgt := 13) hx hb dX4_pump_8 (by decide) (fun h2 => ?_) (fun h2 => ?_)
    · skip
      obtain ⟨N, hN1, hN8, hNe⟩ := nk_n8 h1 h2
      have hnc : pn.toNatClampNeg = N := by rw [hNe]; exact nI_clamp (by omega)
      obtain ⟨Z, hZ⟩ : ∃ Z, Z = ys_pu N 0 I J := ⟨_, rfl⟩
      have hl : lv_has ls 3 [(0, .ref (ad 20 0)), (1, .int (nI N))] := by rw [← hNe]; exact hl
      refine lv_iconst (pc := 13) (v := 0) hx hb dX4_pump_13 (by decide) ?_
      refine lv_istore_n (pc := 14) (lv' := [(2, .int 0), (0, .ref (ad 20 0)), (1, .int (nI N))]) hx hb dX4_pump_14 rfl hl (by decide) rfl (fun ls hl => ?_)
      have loop15 : ∀ (n : Nat) (j : Nat) (I2 : nf_I) (J2 : nf_J) (ls : Array Slot) (H : Heap) (locs : List Loc), N - j < n → (j ≤ N) → (Inv I2 J2) → (Z = ys_pu (N - j) j I2 J2) → nf_M D vwCl Bs (xS cs nn) ad I2 J2 P s.heap H locs → lv_has ls 3 [(2, .int (nI j)), (0, .ref (ad 20 0)), (1, .int (nI N))] → W p l e (nf_Rm 5 117) s m ([.ref (ad 20 0), .int pn] : List Value).toArray below meth c H locs 0 0 Q (F0 m 15 ls []) := by
        intro n
        induction n with
        | zero => exact fun _ _ _ _ _ _ hmz => absurd hmz (Nat.not_lt_zero _)
        | succ n ihloop15 =>
          intro j I2 J2 ls H locs hmz hjn hinv hf hM hl
          refine lv_iload_n (pc := 15) hx hb dX4_pump_15 rfl (lv_at hl 0 rfl) ?_
          refine lv_iload_n (pc := 16) hx hb dX4_pump_16 rfl (lv_at hl 2 rfl) ?_
          refine lv_icmp_ge (pc := 17) (tgt := 38) hx hb dX4_pump_17 (by decide) (fun hh => ?_) (fun hh => ?_)
          · have hj3 : N ≤ j := (nI_leI (by omega) (by omega)).mp (by exact hh)
            refine lv_iload_n (pc := 38) hx hb dX4_pump_38 rfl (lv_at hl 0 rfl) ?_
            exact hret _ _ _ _ _ _ _ _ (by rw [ys_puR, if_neg h1, if_pos h2, hnc, ← hZ, hf, show N - j = 0 by omega, ys_pu]) (by rw [ys_puI, if_neg h1, if_pos h2, hnc, ← hZ, hf, show N - j = 0 by omega, ys_pu]) (by rw [ys_puJ, if_neg h1, if_pos h2, hnc, ← hZ, hf, show N - j = 0 by omega, ys_pu]) rfl hM dX4_pump_39
          · have hj3 : j < N := Nat.lt_of_not_le (fun z => hh (by exact (nI_leI (by omega) (by omega)).mpr z))
            obtain ⟨rwn, kp, hrw, hk2, hr, hkp, hnx⟩ := hstep I2 J2 hinv
            refine lv_aload_n (pc := 20) hx hb dX4_pump_20 rfl (lv_at hl 1 rfl) ?_
            refine nf_geti (pc := 21) hC hinX4 hM rfl rfl 13 (by decide) (List.mem_cons_of_mem _ wF_X4_75) rfl dX4_pump_21 ?_
            refine lv_if_le (pc := 24) (tgt := 38) hx hb dX4_pump_24 (by decide) (fun h4 => ?_) (fun h4 => ?_)
            · skip
              refine lv_iload_n (pc := 38) hx hb dX4_pump_38 rfl (lv_at hl 0 rfl) ?_
              exact hret _ _ _ _ _ _ _ _ (by rw [ys_puR, if_neg h1, if_pos h2, hnc, ← hZ, hf, show N - j = (N - (j + 1)) + 1 by omega, ys_pu, if_pos h4]) (by rw [ys_puI, if_neg h1, if_pos h2, hnc, ← hZ, hf, show N - j = (N - (j + 1)) + 1 by omega, ys_pu, if_pos h4]) (by rw [ys_puJ, if_neg h1, if_pos h2, hnc, ← hZ, hf, show N - j = (N - (j + 1)) + 1 by omega, ys_pu, if_pos h4]) rfl hM dX4_pump_39
            · skip
              have hr0 : 0 < rwn := Nat.pos_of_ne_zero (fun z => h4 (by rw [hr, z]; decide))
              obtain ⟨hmy, hinv2⟩ := hnx hr0
              refine lv_aload_n (pc := 27) hx hb dX4_pump_27 rfl (lv_at hl 1 rfl) ?_
              refine lv_iconst (pc := 28) (v := 0) hx hb dX4_pump_28 (by decide) ?_
              refine nf_callv (pc := 29) (va_runV (As := [.int (nI 0)]) (rest := []) hC.1 (ct_X4_arrive (kn := 0) (rwn := rwn) (kp := kp) hr hrw hr0 hkp hk2 hmy) (cwV 1 hC.1.2.2.2.2 (gd_V wM_X4_138 wi_X4_arrive wsel_X4_arrive wini_X4 wcode_X4_arrive) rfl rfl rfl (by decide +kernel) ⟨by decide, by decide⟩) (nf_preV hC hM rfl rfl) rfl rfl hl.1 (rfl) (lv_room (Nat.le_of_ble_eq_true rfl)) dX4_pump_29 ⟨Nat.le_refl _, Nat.le_refl _⟩) hM (fun H locs hM => ?_)
              have hM : nf_M D vwCl Bs (xS cs nn) ad (ys_arI I2 J2 0) (ys_arJ I2 J2 0) P s.heap H locs := by rw [ys_arI, ys_arJ, ys_rwn_e hr (by omega), ys_kpn_e hkp (by omega)]; exact hM
              refine lv_iinc (pc := 32) (k := 0) (v := nI (j + 1)) (lv' := [(2, .int (nI (j + 1))), (0, .ref (ad 20 0)), (1, .int (nI N))]) hx hb dX4_pump_32 hl rfl (nI_1 _) (by decide) rfl (fun ls hl => ?_)
              refine lv_goto (pc := 35) (tgt := 15) hx hb dX4_pump_35 (by decide) ?_
              exact ihloop15 (j + 1) (ys_arI I2 J2 0) (ys_arJ I2 J2 0) ls _ _ (by omega) (by omega) hinv2 (by rw [hf, show N - j = (N - (j + 1)) + 1 by omega, ys_pu, if_neg h4]) hM hl
      exact loop15 _ 0 I J ls _ _ (Nat.lt_succ_self _) (Nat.zero_le _) hinv0 hZ hM hl
    · skip
      refine lv_iconst (pc := 11) (v := -1) hx hb dX4_pump_11 (by decide) ?_
      exact hret _ _ _ _ _ _ _ _ (by simp [ys_puR, h1, h2]) (by simp [ys_puI, h1, h2]) (by simp [ys_puJ, h1, h2]) rfl hM dX4_pump_12
end YI
end
section
/-! The class: pump. -/
section XH
variable {l : Launch} {D : va_G} {cs : Nat → ClassId} {Bs nn kc : Nat} {ad : nf_A} {I : nf_I} {J : nf_J} {mp : Nat → Nat}
set_option maxHeartbeats 4000000 in
set_option maxRecDepth 100000 in
theorem ct_X3_pump {pn : Int32} {Inv : nf_I → nf_J → (Nat → Nat) → Prop} (hnn : nn ≤ 12) (hkk : kc ≤ 10) (hinv0 : Inv I J mp) (hstep : ∀ (I : nf_I) (J : nf_J) (mp : Nat → Nat), Inv I J mp → ∃ sz : Nat, sz ≤ 20 ∧ I 0 0 1 = nI nn ∧ I 0 0 3 = nI kc ∧ I 3 0 1 = nI sz ∧ (∀ j, j < 21 → mp j < 21) ∧ Inv (xs_arr I J mp nn kc 0).2.1 (xs_arr I J mp nn kc 0).2.2.1 (xs_arr I J mp nn kc 0).2.2.2) : nf_Ti l yX3_pump wsX3_pump 6 135 D vwCl (xT cs) Bs (xS cs nn) ad [.ref (ad 0 0), .int pn] I J (xP nn mp) (xs_puR I J mp nn kc pn) (xs_puI I J mp nn kc pn) (xs_puJ I J mp nn kc pn) (xP nn (xs_puM I J mp nn kc pn)) := by
  refine nf_enteri (cc := cX3_pump) (maxL := 3) (by decide) rfl (Nat.le_of_ble_eq_true rfl) ?_
  intro p e s m below meth c ls Q hC hM hl hret
  have hx := hC.1.1
  have hb := hC.1.2.1
  have hl : lv_has ls 3 [(0, .ref (ad 0 0)), (1, .int pn)] := hl
  refine lv_iload_n (pc := 0) hx hb dX3_pump_0 rfl (lv_at hl 1 rfl) ?_
  refine lv_iconst (pc := 1) (v := 1) hx hb dX3_pump_1 (by decide) ?_
  refine lv_icmp_lt (pc := 2) (tgt := 11) hx hb dX3_pump_2 (by decide) (fun h1 => ?_) (fun h1 => ?_)
  · skip
    refine lv_iconst (pc := 11) (v := -1) hx hb dX3_pump_11 (by decide) ?_
    exact hret _ _ _ _ _ _ _ _ (by simp [xs_puR, h1]) (by simp [xs_puI, h1]) (by simp [xs_puJ, h1]) (by simp [xs_puM, h1]) hM dX3_pump_12
  · skip
    refine lv_iload_n (pc := 5) hx hb dX3_pump_5 rfl (lv_at hl 1 rfl) ?_
    refine lv_bipush (pc := 6) (v := 8) hx hb dX3_pump_6 (by decide) ?_
    refine lv_icmp_le (pc := 8) (tgt := 13) hx hb dX3_pump_8 (by decide) (fun h2 => ?_) (fun h2 => ?_)
    · skip
      obtain ⟨N, hN1, hN8, hNe⟩ := nk_n8 h1 h2
      have hnc : pn.toNatClampNeg = N := by rw [hNe]; exact nI_clamp (by omega)
      obtain ⟨Z, hZ⟩ : ∃ Z, Z = xs_pu nn kc N 0 I J mp := ⟨_, rfl⟩
      have hl : lv_has ls 3 [(0, .ref (ad 0 0)), (1, .int (nI N))] := by rw [← hNe]; exact hl
      refine lv_iconst (pc := 13) (v := 0) hx hb dX3_pump_13 (by decide) ?_
      refine lv_istore_n (pc := 14) (lv' := [(2, .int 0), (0, .ref (ad 0 0)), (1, .int (nI N))]) hx hb dX3_pump_14 rfl hl (by decide) rfl (fun ls hl => ?_)
      have loop15 : ∀ (n : Nat) (j : Nat) (I2 : nf_I) (J2 : nf_J) (M2 : Nat → Nat) (ls : Array Slot) (H : Heap) (locs : List Loc), N - j < n → (j ≤ N) → (Inv I2 J2 M2) → (Z = xs_pu nn kc (N - j) j I2 J2 M2) → nf_M D vwCl Bs (xS cs nn) ad I2 J2 (xP nn M2) s.heap H locs → lv_has ls 3 [(2, .int (nI j)), (0, .ref (ad 0 0)), (1, .int (nI N))] → W p l e (nf_Rm 6 135) s m ([.ref (ad 0 0), .int pn] : List Value).toArray below meth c H locs 0 0 Q (F0 m 15 ls []) := by
        intro n
        induction n with
        | zero => exact fun _ _ _ _ _ _ _ hmz => absurd hmz (Nat.not_lt_zero _)
        | succ n ihloop15 =>
          intro j I2 J2 M2 ls H locs hmz hjn hinv hf hM hl
          refine lv_iload_n (pc := 15) hx hb dX3_pump_15 rfl (lv_at hl 0 rfl) ?_
          refine lv_iload_n (pc := 16) hx hb dX3_pump_16 rfl (lv_at hl 2 rfl) ?_
          refine lv_icmp_ge (pc := 17) (tgt := 35) hx hb dX3_pump_17 (by decide) (fun hh => ?_) (fun hh => ?_)
          · have hj3 : N ≤ j := (nI_leI (by omega) (by omega)).mp (by exact hh)
            refine lv_iload_n (pc := 35) hx hb dX3_pump_35 rfl (lv_at hl 0 rfl) ?_
            exact hret _ _ _ _ _ _ _ _ (by rw [xs_puR, if_neg h1, if_pos h2, hnc, ← hZ, hf, show N - j = 0 by omega, xs_pu]) (by rw [xs_puI, if_neg h1, if_pos h2, hnc, ← hZ, hf, show N - j = 0 by omega, xs_pu]) (by rw [xs_puJ, if_neg h1, if_pos h2, hnc, ← hZ, hf, show N - j = 0 by omega, xs_pu]) (by rw [xs_puM, if_neg h1, if_pos h2, hnc, ← hZ, hf, show N - j = 0 by omega, xs_pu]) hM dX3_pump_36
          · have hj3 : j < N := Nat.lt_of_not_le (fun z => hh (by exact (nI_leI (by omega) (by omega)).mpr z))
            obtain ⟨sz, hsz, hn, hk, hs, hmp, hinv2⟩ := hstep I2 J2 M2 hinv
            refine lv_aload_n (pc := 20) hx hb dX3_pump_20 rfl (lv_at hl 1 rfl) ?_
            refine lv_iconst (pc := 21) (v := 0) hx hb dX3_pump_21 (by decide) ?_
            refine nf_calli (pc := 22) (va_runV (As := [.int 0]) (rest := []) hC.1 (ct_X3_arrive (k := 0) hn hnn hk hkk hs hsz hmp) (cwV 1 hC.1.2.2.2.2 (gd_V wM_X3_84 wi_X3_arrive wsel_X3_arrive wini_X3 wcode_X3_arrive) rfl rfl rfl (by decide +kernel) ⟨by decide, by decide⟩) (nf_preV hC hM rfl rfl) rfl rfl hl.1 rfl (lv_room (Nat.le_of_ble_eq_true rfl)) dX3_pump_22 ⟨Nat.le_refl _, Nat.le_refl _⟩) hM (fun H locs hM => ?_)
            refine lv_iconst (pc := 25) (v := -1) hx hb dX3_pump_25 (by decide) ?_
            refine lv_icmp_eq (pc := 26) (tgt := 35) hx hb dX3_pump_26 (by decide) (fun h4 => ?_) (fun h4 => ?_)
            · skip
              refine lv_iload_n (pc := 35) hx hb dX3_pump_35 rfl (lv_at hl 0 rfl) ?_
              exact hret _ _ _ _ _ _ _ _ (by rw [xs_puR, if_neg h1, if_pos h2, hnc, ← hZ, hf, show N - j = (N - (j + 1)) + 1 by omega, xs_pu, if_pos h4]) (by rw [xs_puI, if_neg h1, if_pos h2, hnc, ← hZ, hf, show N - j = (N - (j + 1)) + 1 by omega, xs_pu, if_pos h4]) (by rw [xs_puJ, if_neg h1, if_pos h2, hnc, ← hZ, hf, show N - j = (N - (j + 1)) + 1 by omega, xs_pu, if_pos h4]) (by rw [xs_puM, if_neg h1, if_pos h2, hnc, ← hZ, hf, show N - j = (N - (j + 1)) + 1 by omega, xs_pu, if_pos h4]) hM dX3_pump_36
            · skip
              refine lv_iinc (pc := 29) (k := 0) (v := nI (j + 1)) (lv' := [(2, .int (nI (j + 1))), (0, .ref (ad 0 0)), (1, .int (nI N))]) hx hb dX3_pump_29 hl rfl (nI_1 _) (by decide) rfl (fun ls hl => ?_)
              refine lv_goto (pc := 32) (tgt := 15) hx hb dX3_pump_32 (by decide) ?_
              exact ihloop15 (j + 1) ((xs_arr I2 J2 M2 nn kc 0).2.1) ((xs_arr I2 J2 M2 nn kc 0).2.2.1) ((xs_arr I2 J2 M2 nn kc 0).2.2.2) ls _ _ (by omega) (by omega) hinv2 (by rw [hf, show N - j = (N - (j + 1)) + 1 by omega, xs_pu, if_neg h4]) hM hl
      exact loop15 _ 0 I J mp ls _ _ (Nat.lt_succ_self _) (Nat.zero_le _) hinv0 hZ hM hl
    · skip
      refine lv_iconst (pc := 11) (v := -1) hx hb dX3_pump_11 (by decide) ?_
      exact hret _ _ _ _ _ _ _ _ (by simp [xs_puR, h1, h2]) (by simp [xs_puI, h1, h2]) (by simp [xs_puJ, h1, h2]) (by simp [xs_puM, h1, h2]) hM dX3_pump_12
end XH
end
