def RX0 : String := "GrantRing"
def TX0 : u_T := fun k => match k with
  | 0 => ("GrantRing", "domains", "[LGrantRing$Domain;", true)
  | 1 => ("GrantRing", "pages", "[LGrantRing$Page;", true)
  | _ => ("GrantRing", "devices", "[LGrantRing$Device;", true)
def tyX0 : Nat → FieldType := fun k => match k with
  | 0 => .array (.object "GrantRing$Domain")
  | 1 => .array (.object "GrantRing$Page")
  | _ => .array (.object "GrantRing$Device")
theorem nmX0 : ∀ a, a < 3 → ∀ b, b < 3 → a ≠ b → (TX0 a).2.1 ≠ (TX0 b).2.1 := by decide +kernel
theorem tyX0_ok : ∀ k, k < 3 → parseFieldDescriptor (TX0 k).2.2.1 = some (tyX0 k) := by decide +kernel
def RX1 : String := "GrantRing$Domain"
def TX1 : u_T := fun k => match k with
  | 0 => ("GrantRing$Domain", "state", "I", false)
  | 1 => ("GrantRing$Domain", "entries", "[LGrantRing$Entry;", true)
  | 2 => ("GrantRing$Domain", "handles", "[LGrantRing$Handle;", true)
  | _ => ("GrantRing$Domain", "ports", "[LGrantRing$Port;", true)
def tyX1 : Nat → FieldType := fun k => match k with
  | 0 => .int
  | 1 => .array (.object "GrantRing$Entry")
  | 2 => .array (.object "GrantRing$Handle")
  | _ => .array (.object "GrantRing$Port")
theorem nmX1 : ∀ a, a < 4 → ∀ b, b < 4 → a ≠ b → (TX1 a).2.1 ≠ (TX1 b).2.1 := by decide +kernel
theorem tyX1_ok : ∀ k, k < 4 → parseFieldDescriptor (TX1 k).2.2.1 = some (tyX1 k) := by decide +kernel
def RX2 : String := "GrantRing$Page"
def TX2 : u_T := fun k => match k with
  | 0 => ("GrantRing$Page", "owner", "I", false)
  | _ => ("GrantRing$Page", "words", "[I", true)
def tyX2 : Nat → FieldType := fun k => match k with
  | 0 => .int
  | _ => .array .int
theorem nmX2 : ∀ a, a < 2 → ∀ b, b < 2 → a ≠ b → (TX2 a).2.1 ≠ (TX2 b).2.1 := by decide +kernel
theorem tyX2_ok : ∀ k, k < 2 → parseFieldDescriptor (TX2 k).2.2.1 = some (tyX2 k) := by decide +kernel
def RX3 : String := "GrantRing$Device"
def TX3 : u_T := fun k => match k with
  | 0 => ("GrantRing$Device", "present", "Z", false)
  | 1 => ("GrantRing$Device", "front", "I", false)
  | 2 => ("GrantRing$Device", "back", "I", false)
  | 3 => ("GrantRing$Device", "ringPage", "I", false)
  | 4 => ("GrantRing$Device", "ringEntry", "I", false)
  | 5 => ("GrantRing$Device", "ringHandle", "I", false)
  | 6 => ("GrantRing$Device", "frontPort", "I", false)
  | 7 => ("GrantRing$Device", "backPort", "I", false)
  | 8 => ("GrantRing$Device", "posted", "I", false)
  | 9 => ("GrantRing$Device", "reaped", "I", false)
  | 10 => ("GrantRing$Device", "taken", "I", false)
  | 11 => ("GrantRing$Device", "notedPages", "[I", true)
  | 12 => ("GrantRing$Device", "notedEntries", "[I", true)
  | _ => ("GrantRing$Device", "disk", "[I", true)
def tyX3 : Nat → FieldType := fun k => match k with
  | 0 => .boolean
  | 1 => .int
  | 2 => .int
  | 3 => .int
  | 4 => .int
  | 5 => .int
  | 6 => .int
  | 7 => .int
  | 8 => .int
  | 9 => .int
  | 10 => .int
  | 11 => .array .int
  | 12 => .array .int
  | _ => .array .int
theorem nmX3 : ∀ a, a < 14 → ∀ b, b < 14 → a ≠ b → (TX3 a).2.1 ≠ (TX3 b).2.1 := by decide +kernel
theorem tyX3_ok : ∀ k, k < 14 → parseFieldDescriptor (TX3 k).2.2.1 = some (tyX3 k) := by decide +kernel
def RX4 : String := "GrantRing$Entry"
def TX4 : u_T := fun k => match k with
  | 0 => ("GrantRing$Entry", "target", "I", false)
  | 1 => ("GrantRing$Entry", "kind", "I", false)
  | 2 => ("GrantRing$Entry", "page", "I", false)
  | _ => ("GrantRing$Entry", "mappings", "I", false)
def tyX4 : Nat → FieldType := fun k => match k with
  | 0 => .int
  | 1 => .int
  | 2 => .int
  | _ => .int
theorem nmX4 : ∀ a, a < 4 → ∀ b, b < 4 → a ≠ b → (TX4 a).2.1 ≠ (TX4 b).2.1 := by decide +kernel
theorem tyX4_ok : ∀ k, k < 4 → parseFieldDescriptor (TX4 k).2.2.1 = some (tyX4 k) := by decide +kernel
def RX5 : String := "GrantRing$Handle"
def TX5 : u_T := fun k => match k with
  | 0 => ("GrantRing$Handle", "from", "I", false)
  | 1 => ("GrantRing$Handle", "ref", "I", false)
  | _ => ("GrantRing$Handle", "writing", "Z", false)
def tyX5 : Nat → FieldType := fun k => match k with
  | 0 => .int
  | 1 => .int
  | _ => .boolean
theorem nmX5 : ∀ a, a < 3 → ∀ b, b < 3 → a ≠ b → (TX5 a).2.1 ≠ (TX5 b).2.1 := by decide +kernel
theorem tyX5_ok : ∀ k, k < 3 → parseFieldDescriptor (TX5 k).2.2.1 = some (tyX5 k) := by decide +kernel
def RX6 : String := "GrantRing$Port"
def TX6 : u_T := fun k => match k with
  | 0 => ("GrantRing$Port", "state", "I", false)
  | 1 => ("GrantRing$Port", "other", "I", false)
  | 2 => ("GrantRing$Port", "otherPort", "I", false)
  | _ => ("GrantRing$Port", "pending", "Z", false)
def tyX6 : Nat → FieldType := fun k => match k with
  | 0 => .int
  | 1 => .int
  | 2 => .int
  | _ => .boolean
theorem nmX6 : ∀ a, a < 4 → ∀ b, b < 4 → a ≠ b → (TX6 a).2.1 ≠ (TX6 b).2.1 := by decide +kernel
theorem tyX6_ok : ∀ k, k < 4 → parseFieldDescriptor (TX6 k).2.2.1 = some (tyX6 k) := by decide +kernel
def RX7 : String := "GrantRingModel"
def TX7 : u_T := fun k => match k with
  | 0 => ("GrantRingModel", "state", "[I", false)
  | 1 => ("GrantRingModel", "owner", "[I", false)
  | 2 => ("GrantRingModel", "words", "[I", false)
  | 3 => ("GrantRingModel", "target", "[I", false)
  | 4 => ("GrantRingModel", "kinds", "[I", false)
  | 5 => ("GrantRingModel", "entryPage", "[I", false)
  | 6 => ("GrantRingModel", "mapped", "[I", false)
  | 7 => ("GrantRingModel", "writes", "[Z", false)
  | 8 => ("GrantRingModel", "port", "[I", false)
  | 9 => ("GrantRingModel", "far", "[I", false)
  | 10 => ("GrantRingModel", "pending", "[Z", false)
  | 11 => ("GrantRingModel", "front", "[I", false)
  | 12 => ("GrantRingModel", "back", "[I", false)
  | 13 => ("GrantRingModel", "ring", "[I", false)
  | 14 => ("GrantRingModel", "ringEntry", "[I", false)
  | 15 => ("GrantRingModel", "ringHandle", "[I", false)
  | 16 => ("GrantRingModel", "frontPort", "[I", false)
  | 17 => ("GrantRingModel", "backPort", "[I", false)
  | 18 => ("GrantRingModel", "posted", "[I", false)
  | 19 => ("GrantRingModel", "reaped", "[I", false)
  | 20 => ("GrantRingModel", "taken", "[I", false)
  | 21 => ("GrantRingModel", "notePage", "[I", false)
  | 22 => ("GrantRingModel", "noteEntry", "[I", false)
  | _ => ("GrantRingModel", "disk", "[I", false)
def tyX7 : Nat → FieldType := fun k => match k with
  | 0 => .array .int
  | 1 => .array .int
  | 2 => .array .int
  | 3 => .array .int
  | 4 => .array .int
  | 5 => .array .int
  | 6 => .array .int
  | 7 => .array .boolean
  | 8 => .array .int
  | 9 => .array .int
  | 10 => .array .boolean
  | 11 => .array .int
  | 12 => .array .int
  | 13 => .array .int
  | 14 => .array .int
  | 15 => .array .int
  | 16 => .array .int
  | 17 => .array .int
  | 18 => .array .int
  | 19 => .array .int
  | 20 => .array .int
  | 21 => .array .int
  | 22 => .array .int
  | _ => .array .int
theorem nmX7 : ∀ a, a < 24 → ∀ b, b < 24 → a ≠ b → (TX7 a).2.1 ≠ (TX7 b).2.1 := by decide +kernel
theorem tyX7_ok : ∀ k, k < 24 → parseFieldDescriptor (TX7 k).2.2.1 = some (tyX7 k) := by decide +kernel
def RL : String := "GrantRingLaw"
def pm_cl : List vw_C := [(RX0, TX0, 3), (RX1, TX1, 4), (RX2, TX2, 2), (RX3, TX3, 14), (RX4, TX4, 4), (RX5, TX5, 3), (RX6, TX6, 4), (RX7, TX7, 24)]
def pm_ft (t : Nat) : Nat → FieldType := match t with
  | 0 => tyX0
  | 1 => tyX1
  | 2 => tyX2
  | 3 => tyX3
  | 4 => tyX4
  | 5 => tyX5
  | 6 => tyX6
  | 7 => tyX7
  | _ => fun _ => .int
def pm_fins : List (List Bool) := [[true, true, true], [false, true, true, true], [false, true], [false, false, false, false, false, false, false, false, false, false, false, true, true, true], [false, false, false, false], [false, false, false], [false, false, false, false], [false, false, false, false, false, false, false, false, false, false, false, false, false, false, false, false, false, false, false, false, false, false, false, false]]
def pm_fin (t j : Nat) : Bool := (pm_fins.getD t []).getD j false
def pm_onms : List String := [RX0, RX1, RX2, RX3, RX4, RX5, RX6, RX7, RL]
def pm_onm (o : Nat) : String := pm_onms.getD o RL
def pm_ats : List FieldType := [.int, .boolean, .object RX1, .object RX2, .object RX3, .object RX4, .object RX5, .object RX6]
def pm_at (k : Nat) : Option FieldType := pm_ats[k]?
def pm_aes : List Nat := [100, 100, 1, 2, 3, 4, 5, 6]
def pm_ae (k : Nat) : Option Nat := match pm_aes[k]? with
  | some u => if u < 100 then some u else none
  | none => none
abbrev pm_M : Type := MethodName × ByteArray × Nat × Option FieldType × Nat × Bool
def pm_ms : List pm_M := [
  (⟨RX0, "<init>", "()V"⟩, prog_1_method_1_code, 2, none, 0, true),
  (⟨RX0, "create", "()I"⟩, prog_1_method_2_code, 2, some .int, 0, false),
  (⟨RX0, "destroy", "(I)I"⟩, prog_1_method_3_code, 2, some .int, 0, false),
  (⟨RX0, "alloc", "(I)I"⟩, prog_1_method_4_code, 3, some .int, 0, false),
  (⟨RX0, "free", "(II)I"⟩, prog_1_method_5_code, 3, some .int, 0, false),
  (⟨RX0, "grant", "(IIII)I"⟩, prog_1_method_6_code, 6, some .int, 0, false),
  (⟨RX0, "end", "(II)I"⟩, prog_1_method_7_code, 4, some .int, 0, false),
  (⟨RX0, "map", "(IIIZ)I"⟩, prog_1_method_8_code, 7, some .int, 0, false),
  (⟨RX0, "unmap", "(II)I"⟩, prog_1_method_9_code, 3, some .int, 0, false),
  (⟨RX0, "give", "(IIII)I"⟩, prog_1_method_10_code, 6, some .int, 0, false),
  (⟨RX0, "store", "(IIII)I"⟩, prog_1_method_11_code, 6, some .int, 0, false),
  (⟨RX0, "load", "(III)J"⟩, prog_1_method_12_code, 5, some .long, 0, false),
  (⟨RX0, "open", "(II)I"⟩, prog_1_method_13_code, 4, some .int, 0, false),
  (⟨RX0, "bind", "(III)I"⟩, prog_1_method_14_code, 5, some .int, 0, false),
  (⟨RX0, "send", "(II)I"⟩, prog_1_method_15_code, 5, some .int, 0, false),
  (⟨RX0, "next", "(I)I"⟩, prog_1_method_16_code, 4, some .int, 0, false),
  (⟨RX0, "attach", "(II)I"⟩, prog_1_method_17_code, 5, some .int, 0, false),
  (⟨RX0, "submit", "(IZII)I"⟩, prog_1_method_18_code, 10, some .int, 0, false),
  (⟨RX0, "serve", "(I)I"⟩, prog_1_method_19_code, 9, some .int, 0, false),
  (⟨RX0, "reap", "(I)J"⟩, prog_1_method_20_code, 11, some .long, 0, false),
  (⟨RX0, "look", "(III)J"⟩, prog_1_method_21_code, 4, some .long, 0, false),
  (⟨RX0, "isDomain", "(I)Z"⟩, prog_1_method_22_code, 1, some .boolean, 0, false),
  (⟨RX0, "isOtherDomain", "(II)Z"⟩, prog_1_method_23_code, 2, some .boolean, 0, false),
  (⟨RX0, "isPage", "(I)Z"⟩, prog_1_method_24_code, 1, some .boolean, 0, false),
  (⟨RX0, "isPort", "(I)Z"⟩, prog_1_method_25_code, 1, some .boolean, 0, false),
  (⟨RX0, "isLive", "(I)Z"⟩, prog_1_method_26_code, 2, some .boolean, 0, false),
  (⟨RX0, "isPresent", "(I)Z"⟩, prog_1_method_27_code, 2, some .boolean, 0, false),
  (⟨RX0, "owns", "(II)Z"⟩, prog_1_method_28_code, 3, some .boolean, 0, false),
  (⟨RX0, "pagesOwnedBy", "(I)I"⟩, prog_1_method_29_code, 4, some .int, 0, false),
  (⟨RX0, "pageToGet", "(I)I"⟩, prog_1_method_30_code, 2, some .int, 0, false),
  (⟨RX0, "leastFreePage", "()I"⟩, prog_1_method_31_code, 2, some .int, 0, false),
  (⟨RX0, "accessCode", "(IIIZ)I"⟩, prog_1_method_32_code, 5, some .int, 0, false),
  (⟨RX0, "hasMappingOf", "(IIZ)Z"⟩, prog_1_method_33_code, 6, some .boolean, 0, false),
  (⟨RX0, "entryOf", "(LGrantRing$Handle;)LGrantRing$Entry;"⟩, prog_1_method_34_code, 2, some (.object "GrantRing$Entry"), 0, false),
  (⟨RX0, "pageOf", "(LGrantRing$Handle;)I"⟩, prog_1_method_35_code, 2, some .int, 0, false),
  (⟨RX0, "peerOf", "(LGrantRing$Port;)LGrantRing$Port;"⟩, prog_1_method_36_code, 2, some (.object "GrantRing$Port"), 0, false),
  (⟨RX0, "takeAway", "(LGrantRing$Handle;)V"⟩, prog_1_method_37_code, 4, none, 0, false),
  (⟨RX0, "release", "(ILGrantRing$Entry;)V"⟩, prog_1_method_38_code, 4, none, 0, false),
  (⟨RX0, "buryIfPageless", "(I)V"⟩, prog_1_method_39_code, 2, none, 0, false),
  (⟨RX0, "removeDevicesOf", "(I)V"⟩, prog_1_method_40_code, 3, none, 0, false),
  (⟨RX0, "takeAwayMappingsOf", "(I)V"⟩, prog_1_method_41_code, 4, none, 0, false),
  (⟨RX0, "closePortsOf", "(I)V"⟩, prog_1_method_42_code, 4, none, 0, false),
  (⟨RX0, "freeUnmappedPagesOf", "(I)V"⟩, prog_1_method_43_code, 3, none, 0, false),
  (⟨RX0, "leastAbsentDevice", "()I"⟩, prog_1_method_44_code, 2, some .int, 0, false),
  (⟨RX0, "canGrantNewPage", "(I)Z"⟩, prog_1_method_45_code, 2, some .boolean, 0, false),
  (⟨RX0, "hasRoomForFront", "(I)Z"⟩, prog_1_method_46_code, 2, some .boolean, 0, false),
  (⟨RX0, "hasRoomForBack", "(I)Z"⟩, prog_1_method_47_code, 2, some .boolean, 0, false),
  (⟨RX0, "deviceCode", "(I)I"⟩, prog_1_method_48_code, 2, some .int, 0, false),
  (⟨RX0, "isWhole", "(LGrantRing$Device;)Z"⟩, prog_1_method_49_code, 3, some .boolean, 0, false),
  (⟨RX0, "post", "(LGrantRing$Device;III)I"⟩, prog_1_method_50_code, 8, some .int, 0, false),
  (⟨RX0, "carryOut", "(LGrantRing$Device;I)I"⟩, prog_1_method_51_code, 7, some .int, 0, false),
  (⟨RX1, "<init>", "()V"⟩, prog_3_method_1_code, 2, none, 1, true),
  (⟨RX1, "hasEntry", "(I)Z"⟩, prog_3_method_2_code, 2, some .boolean, 1, false),
  (⟨RX1, "hasMapping", "(I)Z"⟩, prog_3_method_3_code, 2, some .boolean, 1, false),
  (⟨RX1, "hasEntryWith", "(I)Z"⟩, prog_3_method_4_code, 3, some .boolean, 1, false),
  (⟨RX1, "hasMappedEntryWith", "(I)Z"⟩, prog_3_method_5_code, 3, some .boolean, 1, false),
  (⟨RX1, "leastFreeEntry", "()I"⟩, prog_3_method_6_code, 2, some .int, 1, false),
  (⟨RX1, "leastFreeHandle", "()I"⟩, prog_3_method_7_code, 2, some .int, 1, false),
  (⟨RX1, "leastClosedPort", "()I"⟩, prog_3_method_8_code, 2, some .int, 1, false),
  (⟨RX1, "clearUnmappedEntries", "()V"⟩, prog_3_method_9_code, 2, none, 1, false),
  (⟨RX2, "<init>", "()V"⟩, prog_6_method_1_code, 1, none, 2, true),
  (⟨RX2, "wipe", "()V"⟩, prog_6_method_2_code, 2, none, 2, false),
  (⟨RX3, "<init>", "()V"⟩, prog_2_method_1_code, 1, none, 3, true),
  (⟨RX3, "begin", "(II)V"⟩, prog_2_method_2_code, 4, none, 3, false),
  (⟨RX3, "underway", "()I"⟩, prog_2_method_3_code, 1, some .int, 3, false),
  (⟨RX4, "<init>", "()V"⟩, prog_4_method_1_code, 1, none, 4, true),
  (⟨RX4, "isFree", "()Z"⟩, prog_4_method_2_code, 1, some .boolean, 4, false),
  (⟨RX4, "isMapped", "()Z"⟩, prog_4_method_3_code, 1, some .boolean, 4, false),
  (⟨RX4, "fill", "(III)V"⟩, prog_4_method_4_code, 4, none, 4, false),
  (⟨RX4, "clear", "()V"⟩, prog_4_method_5_code, 1, none, 4, false),
  (⟨RX5, "<init>", "()V"⟩, prog_5_method_1_code, 1, none, 5, true),
  (⟨RX5, "isFree", "()Z"⟩, prog_5_method_2_code, 1, some .boolean, 5, false),
  (⟨RX5, "fill", "(IIZ)V"⟩, prog_5_method_3_code, 4, none, 5, false),
  (⟨RX5, "clear", "()V"⟩, prog_5_method_4_code, 1, none, 5, false),
  (⟨RX6, "<init>", "()V"⟩, prog_7_method_1_code, 1, none, 6, true),
  (⟨RX6, "isWaitingFor", "(I)Z"⟩, prog_7_method_2_code, 2, some .boolean, 6, false),
  (⟨RX6, "waitFor", "(I)V"⟩, prog_7_method_3_code, 2, none, 6, false),
  (⟨RX6, "joinTo", "(II)V"⟩, prog_7_method_4_code, 3, none, 6, false),
  (⟨RX6, "close", "()V"⟩, prog_7_method_5_code, 1, none, 6, false),
  (⟨RX6, "become", "(III)V"⟩, prog_7_method_6_code, 4, none, 6, false),
  (⟨RX7, "<init>", "()V"⟩, prog_9_method_1_code, 1, none, 7, true),
  (⟨RX7, "live", "(I)Z"⟩, prog_9_method_2_code, 2, some .boolean, 7, false),
  (⟨RX7, "owns", "(II)Z"⟩, prog_9_method_3_code, 3, some .boolean, 7, false),
  (⟨RX7, "owned", "(I)I"⟩, prog_9_method_4_code, 4, some .int, 7, false),
  (⟨RX7, "freePage", "()I"⟩, prog_9_method_5_code, 2, some .int, 7, false),
  (⟨RX7, "freeEntry", "(I)I"⟩, prog_9_method_6_code, 3, some .int, 7, false),
  (⟨RX7, "freeHandle", "(I)I"⟩, prog_9_method_7_code, 3, some .int, 7, false),
  (⟨RX7, "closedPort", "(I)I"⟩, prog_9_method_8_code, 3, some .int, 7, false),
  (⟨RX7, "mappings", "(I)I"⟩, prog_9_method_9_code, 4, some .int, 7, false),
  (⟨RX7, "held", "(IIZ)Z"⟩, prog_9_method_10_code, 5, some .boolean, 7, false),
  (⟨RX7, "create", "()I"⟩, prog_9_method_11_code, 2, some .int, 7, false),
  (⟨RX7, "takeAway", "(I)V"⟩, prog_9_method_12_code, 4, none, 7, false),
  (⟨RX7, "close", "(I)V"⟩, prog_9_method_13_code, 2, none, 7, false),
  (⟨RX7, "destroy", "(I)I"⟩, prog_9_method_14_code, 3, some .int, 7, false),
  (⟨RX7, "alloc", "(I)I"⟩, prog_9_method_15_code, 4, some .int, 7, false),
  (⟨RX7, "free", "(II)I"⟩, prog_9_method_16_code, 3, some .int, 7, false),
  (⟨RX7, "grant", "(IIII)I"⟩, prog_9_method_17_code, 6, some .int, 7, false),
  (⟨RX7, "entry", "(II)I"⟩, prog_9_method_18_code, 3, some .int, 7, false),
  (⟨RX7, "end", "(II)I"⟩, prog_9_method_19_code, 4, some .int, 7, false),
  (⟨RX7, "map", "(IIIZ)I"⟩, prog_9_method_20_code, 7, some .int, 7, false),
  (⟨RX7, "unmap", "(II)I"⟩, prog_9_method_21_code, 3, some .int, 7, false),
  (⟨RX7, "give", "(IIII)I"⟩, prog_9_method_22_code, 6, some .int, 7, false),
  (⟨RX7, "may", "(IIZ)Z"⟩, prog_9_method_23_code, 6, some .boolean, 7, false),
  (⟨RX7, "refusal", "(IIIZ)I"⟩, prog_9_method_24_code, 5, some .int, 7, false),
  (⟨RX7, "store", "(IIII)I"⟩, prog_9_method_25_code, 6, some .int, 7, false),
  (⟨RX7, "plain", "(I)J"⟩, prog_9_method_26_code, 1, some .long, 7, false),
  (⟨RX7, "load", "(III)J"⟩, prog_9_method_27_code, 5, some .long, 7, false),
  (⟨RX7, "open", "(II)I"⟩, prog_9_method_28_code, 4, some .int, 7, false),
  (⟨RX7, "bind", "(III)I"⟩, prog_9_method_29_code, 5, some .int, 7, false),
  (⟨RX7, "send", "(II)I"⟩, prog_9_method_30_code, 4, some .int, 7, false),
  (⟨RX7, "next", "(I)I"⟩, prog_9_method_31_code, 3, some .int, 7, false),
  (⟨RX7, "attach", "(II)I"⟩, prog_9_method_32_code, 6, some .int, 7, false),
  (⟨RX7, "trouble", "(I)I"⟩, prog_9_method_33_code, 4, some .int, 7, false),
  (⟨RX7, "submit", "(IZII)I"⟩, prog_9_method_34_code, 10, some .int, 7, false),
  (⟨RX7, "serve", "(I)I"⟩, prog_9_method_35_code, 14, some .int, 7, false),
  (⟨RX7, "reap", "(I)J"⟩, prog_9_method_36_code, 12, some .long, 7, false),
  (⟨RX7, "look", "(III)J"⟩, prog_9_method_37_code, 4, some .long, 7, false),
  (⟨RL, "<init>", "()V"⟩, code, 1, none, 8, true),
  (⟨RL, "cell", "([II)I"⟩, code, 2, some .int, 8, false),
  (⟨RL, "law", "([I)Z"⟩, code, 4, some .boolean, 8, false)]
def pm_m0 : pm_M := (⟨RL, "law", "([I)Z"⟩, code, 4, some .boolean, 8, false)
def pm_m (y : Nat) : pm_M := pm_ms.getD y pm_m0
def pm_y (y : Nat) : MethodName := (pm_m y).1
def pm_code (y : Nat) : ByteArray := (pm_m y).2.1
def pm_maxL (y : Nat) : Nat := (pm_m y).2.2.1
def pm_ret (y : Nat) : Option FieldType := (pm_m y).2.2.2.1
def pm_oc (y : Nat) : Nat := (pm_m y).2.2.2.2.1
def pm_ini (y : Nat) : Bool := (pm_m y).2.2.2.2.2
def pm_own (y : Nat) : String := pm_onm (pm_oc y)
def pm_fls : List (List (Nat × Nat × Nat × Nat)) := [
  [(11, 0, 0, 234), (17, 0, 1, 235), (23, 0, 2, 236), (30, 1, 0, 141), (61, 2, 0, 163), (81, 1, 1, 143), (101, 4, 1, 84), (104, 4, 0, 82), (110, 1, 2, 145), (119, 4, 3, 89), (136, 2, 1, 165), (145, 1, 3, 147), (164, 6, 0, 124), (169, 6, 3, 130), (188, 3, 3, 184), (195, 3, 4, 186), (201, 3, 5, 188), (208, 3, 6, 190), (215, 3, 7, 192), (224, 3, 1, 180), (233, 3, 2, 182), (240, 3, 10, 198), (252, 3, 9, 196), (259, 3, 11, 200), (266, 3, 12, 202), (292, 3, 13, 204), (295, 3, 0, 178), (308, 5, 2, 109), (311, 5, 0, 105), (314, 5, 1, 107), (321, 4, 2, 87), (324, 6, 1, 126), (327, 6, 2, 128), (345, 3, 8, 194)],
  [(9, 1, 0, 140), (17, 1, 1, 142), (23, 1, 2, 144), (29, 1, 3, 146), (41, 4, 2, 86), (47, 6, 0, 123)],
  [(9, 2, 0, 162), (15, 2, 1, 164)],
  [(9, 3, 0, 177), (15, 3, 1, 179), (19, 3, 2, 181), (22, 3, 3, 183), (25, 3, 4, 185), (28, 3, 5, 187), (31, 3, 6, 189), (34, 3, 7, 191), (37, 3, 8, 193), (40, 3, 9, 195), (43, 3, 10, 197), (46, 3, 11, 199), (50, 3, 12, 201), (53, 3, 13, 203)],
  [(9, 4, 0, 81), (15, 4, 1, 83), (18, 4, 2, 85), (21, 4, 3, 88)],
  [(9, 5, 0, 104), (15, 5, 1, 106), (18, 5, 2, 108)],
  [(9, 6, 0, 122), (15, 6, 1, 125), (18, 6, 2, 127), (21, 6, 3, 129)],
  [(7, 7, 0, 560), (13, 7, 1, 561), (16, 7, 2, 562), (19, 7, 3, 563), (22, 7, 4, 564), (25, 7, 5, 565), (28, 7, 6, 566), (31, 7, 7, 567), (35, 7, 8, 568), (38, 7, 9, 569), (41, 7, 10, 570), (44, 7, 11, 571), (47, 7, 12, 572), (50, 7, 13, 573), (53, 7, 14, 574), (56, 7, 15, 575), (59, 7, 16, 576), (62, 7, 17, 577), (65, 7, 18, 578), (68, 7, 19, 579), (71, 7, 20, 580), (74, 7, 21, 581), (77, 7, 22, 582), (80, 7, 23, 583)],
  []]
def pm_cals : List (List (Nat × Nat × Nat × Nat × Nat × Nat × Nat × Nat)) := [
  [(1, 4, 0, 1, 56, 0, 0, 0), (27, 2, 51, 1, 66, 68, 67, 0), (28, 3, 60, 1, 0, 160, 159, 0), (29, 3, 62, 1, 0, 175, 174, 0), (34, 0, 25, 2, 252, 255, 254, 0), (38, 0, 39, 2, 259, 262, 261, 1), (42, 0, 40, 2, 263, 266, 265, 2), (45, 0, 41, 2, 316, 319, 318, 8), (48, 0, 59, 1, 332, 335, 333, 334), (51, 0, 42, 2, 337, 340, 339, 11), (54, 0, 38, 2, 308, 311, 310, 6), (57, 0, 29, 2, 345, 348, 347, 12), (64, 0, 61, 1, 353, 356, 354, 355), (67, 0, 27, 3, 361, 364, 363, 14), (71, 0, 54, 2, 368, 371, 369, 370), (74, 1, 22, 2, 376, 378, 377, 0), (77, 0, 56, 1, 379, 382, 380, 381), (85, 0, 68, 4, 387, 302, 300, 301), (91, 0, 52, 2, 392, 395, 393, 394), (94, 0, 67, 1, 287, 290, 288, 289), (98, 0, 69, 1, 295, 298, 296, 297), (107, 0, 57, 1, 400, 403, 401, 402), (114, 0, 72, 4, 405, 286, 284, 285), (122, 0, 53, 2, 410, 413, 411, 412), (125, 0, 36, 2, 271, 274, 273, 3), (129, 0, 28, 2, 312, 315, 314, 7), (132, 0, 31, 5, 422, 425, 424, 15), (142, 0, 58, 1, 443, 446, 444, 445), (149, 0, 76, 2, 447, 450, 448, 449), (154, 1, 24, 1, 455, 457, 456, 0), (157, 0, 75, 2, 458, 461, 459, 460), (160, 0, 77, 3, 462, 465, 463, 464), (165, 0, 35, 2, 320, 323, 322, 9), (173, 0, 43, 1, 478, 481, 480, 18), (176, 0, 45, 2, 482, 485, 484, 19), (179, 0, 46, 2, 490, 493, 492, 21), (182, 0, 63, 3, 494, 497, 495, 496), (185, 0, 3, 2, 498, 344, 342, 343), (191, 0, 5, 5, 499, 375, 373, 374), (198, 0, 7, 5, 500, 399, 397, 398), (204, 0, 12, 3, 501, 442, 440, 441), (211, 0, 13, 4, 502, 454, 452, 453), (218, 0, 47, 2, 507, 510, 509, 22), (221, 0, 64, 1, 519, 522, 520, 521), (227, 0, 44, 2, 486, 489, 488, 20), (230, 0, 10, 5, 523, 421, 419, 420), (236, 0, 49, 5, 524, 527, 526, 25), (245, 0, 50, 3, 534, 537, 536, 26), (249, 0, 14, 3, 528, 469, 467, 468), (262, 0, 11, 4, 545, 437, 435, 436), (269, 0, 6, 3, 546, 391, 389, 390), (272, 0, 4, 3, 547, 360, 358, 359), (277, 1, 21, 1, 256, 258, 257, 0), (282, 1, 23, 1, 365, 367, 366, 0), (285, 0, 34, 2, 430, 433, 432, 17), (289, 0, 26, 2, 511, 514, 513, 23), (298, 0, 30, 1, 349, 352, 351, 13), (301, 0, 32, 4, 426, 429, 428, 16), (305, 0, 71, 1, 267, 270, 268, 269), (317, 0, 33, 2, 275, 278, 277, 4), (330, 0, 73, 1, 279, 282, 280, 281), (331, 0, 37, 3, 291, 294, 293, 5), (335, 0, 55, 2, 303, 306, 304, 305), (338, 0, 78, 1, 324, 327, 325, 326), (341, 0, 48, 2, 515, 518, 517, 24), (348, 0, 8, 3, 538, 409, 407, 408)],
  [(3, 4, 0, 1, 69, 0, 0, 0), (33, 3, 65, 1, 0, 79, 78, 0), (34, 3, 70, 1, 0, 102, 101, 0), (35, 3, 74, 1, 0, 120, 119, 0), (36, 0, 66, 1, 383, 386, 384, 385), (40, 0, 71, 1, 404, 270, 268, 269), (44, 0, 67, 1, 307, 290, 288, 289), (48, 0, 69, 1, 336, 298, 296, 297)],
  [(3, 4, 0, 1, 161, 0, 0, 0)],
  [(3, 4, 0, 1, 176, 0, 0, 0)],
  [(3, 4, 0, 1, 80, 0, 0, 0), (24, 0, 68, 4, 299, 302, 300, 301)],
  [(3, 4, 0, 1, 103, 0, 0, 0), (22, 0, 72, 4, 283, 286, 284, 285)],
  [(3, 4, 0, 1, 121, 0, 0, 0), (25, 0, 79, 4, 328, 331, 330, 10)],
  [(1, 4, 0, 1, 559, 0, 0, 0), (83, 0, 88, 2, 650, 653, 652, 29), (87, 0, 89, 4, 654, 657, 656, 30), (91, 0, 83, 2, 658, 661, 660, 31), (94, 0, 81, 2, 642, 645, 644, 27), (98, 0, 91, 2, 646, 649, 648, 28), (102, 0, 92, 2, 662, 665, 664, 32), (105, 0, 82, 3, 666, 669, 668, 33), (109, 0, 84, 1, 674, 677, 676, 34), (113, 0, 85, 2, 686, 689, 688, 35), (116, 0, 97, 3, 694, 697, 696, 36), (120, 0, 86, 2, 702, 705, 704, 37), (123, 0, 102, 4, 722, 725, 724, 39), (126, 0, 103, 5, 718, 721, 720, 38), (132, 1, 105, 1, 730, 732, 731, 0), (136, 0, 87, 2, 738, 741, 740, 40), (139, 0, 94, 2, 758, 673, 671, 672), (142, 0, 96, 5, 759, 685, 683, 684), (146, 0, 99, 5, 760, 701, 699, 700), (149, 0, 107, 3, 761, 737, 735, 736), (152, 0, 108, 4, 762, 745, 743, 744), (156, 0, 112, 2, 767, 770, 769, 41), (159, 0, 109, 3, 771, 749, 747, 748), (168, 0, 106, 4, 783, 729, 727, 728), (172, 0, 98, 3, 784, 693, 691, 692), (175, 0, 95, 3, 785, 681, 679, 680)],
  [(9, 2, 0, 1, 53, 55, 54, 0), (12, 2, 80, 1, 556, 558, 557, 0), (13, 0, 1, 1, 244, 247, 245, 246), (17, 0, 90, 1, 634, 637, 635, 636), (18, 0, 2, 2, 248, 251, 249, 250), (22, 0, 93, 2, 638, 641, 639, 640), (23, 0, 3, 2, 341, 344, 342, 343), (26, 0, 94, 2, 670, 673, 671, 672), (27, 0, 4, 3, 357, 360, 358, 359), (31, 0, 95, 3, 678, 681, 679, 680), (32, 0, 5, 5, 372, 375, 373, 374), (36, 0, 96, 5, 682, 685, 683, 684), (37, 0, 6, 3, 388, 391, 389, 390), (40, 0, 98, 3, 690, 693, 691, 692), (41, 0, 7, 5, 396, 399, 397, 398), (45, 0, 99, 5, 698, 701, 699, 700), (46, 0, 8, 3, 406, 409, 407, 408), (49, 0, 100, 3, 706, 709, 707, 708), (50, 0, 9, 5, 414, 417, 415, 416), (53, 0, 101, 5, 710, 713, 711, 712), (54, 0, 10, 5, 418, 421, 419, 420), (57, 0, 104, 5, 714, 717, 715, 716), (58, 0, 11, 4, 434, 437, 435, 436), (62, 0, 106, 4, 726, 729, 727, 728), (63, 0, 12, 3, 439, 442, 440, 441), (66, 0, 107, 3, 734, 737, 735, 736), (67, 0, 13, 4, 451, 454, 452, 453), (71, 0, 108, 4, 742, 745, 743, 744), (72, 0, 14, 3, 466, 469, 467, 468), (75, 0, 109, 3, 746, 749, 747, 748), (76, 0, 15, 2, 470, 473, 471, 472), (79, 0, 110, 2, 750, 753, 751, 752), (80, 0, 16, 3, 474, 477, 475, 476), (83, 0, 111, 3, 754, 757, 755, 756), (84, 0, 17, 5, 503, 506, 504, 505), (88, 0, 113, 5, 763, 766, 764, 765), (89, 0, 18, 2, 529, 532, 530, 531), (92, 0, 114, 2, 772, 775, 773, 774), (93, 0, 19, 2, 539, 542, 540, 541), (97, 0, 115, 2, 777, 780, 778, 779), (98, 0, 20, 4, 549, 552, 550, 551), (101, 0, 116, 4, 787, 790, 788, 789)]]
def pm_nws : List (List (Nat × Nat × Nat)) := [
  [(9, 1, 59), (15, 2, 61), (21, 3, 63)],
  [(15, 4, 70), (21, 5, 72), (27, 6, 74)],
  [],
  [],
  [],
  [],
  [],
  [],
  [(7, 0, 51), (10, 7, 554)]]
def pm_ans : List (List (Nat × Nat × Nat)) := [
  [(9, 2, 59), (15, 3, 61), (21, 4, 63)],
  [(15, 5, 70), (21, 6, 72), (27, 7, 74)],
  [],
  [],
  [],
  [],
  [],
  [],
  []]
def pm_l2s : List (List (Nat × Int64 × Nat)) := [
  [(140, 4294967295, 438), (243, 3, 533), (255, -11, 543), (257, -12, 544), (275, -13, 548), (280, -1, 553)],
  [],
  [],
  [],
  [],
  [],
  [],
  [(130, 4294967296, 733), (162, 3, 776), (164, -11, 781), (166, -12, 782), (178, -13, 786), (180, -1, 791)],
  []]
def pm_fl (o x : Nat) : Option (Nat × Nat) := ((pm_fls.getD o []).lookup x).map fun q => (q.1, q.2.1)
def pm_cal (o x : Nat) : Option (Nat × Nat × Nat) := ((pm_cals.getD o []).lookup x).map fun q => (q.1, q.2.1, q.2.2.1)
def pm_nw (o x : Nat) : Option Nat := ((pm_nws.getD o []).lookup x).map fun q => q.1
def pm_an (o x : Nat) : Option Nat := ((pm_ans.getD o []).lookup x).map fun q => q.1
def pm_l2 (o x : Nat) : Option Int64 := ((pm_l2s.getD o []).lookup x).map fun q => q.1
def pm_nests : List (String × Nat × MethodName × String) := [(RX1, 33, ⟨RX4, "<init>", "()V"⟩, RX0), (RX1, 34, ⟨RX5, "<init>", "()V"⟩, RX0), (RX1, 35, ⟨RX6, "<init>", "()V"⟩, RX0), (RX0, 28, ⟨RX2, "<init>", "()V"⟩, RX0), (RX0, 29, ⟨RX3, "<init>", "()V"⟩, RX0)]
def pm_nest : List Cond := pm_nests.map fun q => .methodLinkNest q.1 q.2.1 q.2.2.1 q.2.2.2
def pm_over : List String := [RX1, RX2, RX3, RX4, RX5, RX6]
def pm_T : List Cond := lw_tbl.filter goodWord
def pm_in (n : Nat) (w : Cond) : Bool := decide (lw_tbl[n]? = some w) && goodWord w
theorem pm_in_mem {n : Nat} {w : Cond} (h : pm_in n w = true) : w ∈ pm_T := by
  simp only [pm_in, Bool.and_eq_true, decide_eq_true_eq] at h
  exact List.mem_filter.mpr ⟨List.mem_of_getElem? h.1, h.2⟩
theorem pm_T_good (w : Cond) (h : w ∈ pm_T) : (w.onTables && w.keeps) = true ∨ ∃ ty, w = .arrayClass ty := good_of_word (List.mem_filter.mp h).2
theorem pm_look {α : Type} {l : List (List (Nat × α))} {o x : Nat} {v : α} (h : (l.getD o []).lookup x = some v) : ∃ r, l[o]? = some r ∧ (x, v) ∈ r := by
  have h1 : ∀ r : List (Nat × α), r.lookup x = some v → (x, v) ∈ r := by
    intro r
    induction r with
    | nil => intro h; cases h
    | cons q r ih =>
      obtain ⟨a, b⟩ := q
      intro h
      by_cases hx : x = a
      · subst hx
        simp at h
        subst h
        exact List.mem_cons_self
      · have hb : (x == a) = false := by simp [hx]
        rw [List.lookup, hb] at h
        exact List.mem_cons_of_mem _ (ih h)
  have h2 := h1 _ h
  rw [List.getD_eq_getElem?_getD] at h2
  cases h3 : l[o]? with
  | none => rw [h3] at h2; cases h2
  | some r => rw [h3] at h2; exact ⟨r, rfl, h2⟩
theorem pm_all {α : Type} {l : List (List (Nat × α))} {chk : Nat → Nat → α → Bool} (h : (l.zipIdx.all fun q => q.1.all fun z => chk q.2 z.1 z.2) = true) {o x : Nat} {v : α} (hl : (l.getD o []).lookup x = some v) : chk o x v = true := by
  obtain ⟨r, h1, h2⟩ := pm_look hl
  have h3 := List.all_eq_true.mp h (r, o) (List.mem_zipIdx_iff_getElem?.mpr h1)
  exact List.all_eq_true.mp h3 (x, v) h2
def pm_ui : List (List Nat) := [[237, 239, 241], [148, 150, 152, 154], [166, 168], [205, 207, 209, 211, 213, 215, 217, 219, 221, 223, 225, 227, 229, 231], [90, 92, 94, 96], [110, 112, 114], [131, 133, 135, 137], [584, 586, 588, 590, 592, 594, 596, 598, 600, 602, 604, 606, 608, 610, 612, 614, 616, 618, 620, 622, 624, 626, 628, 630]]
def pm_uchk (t : Nat) : Bool := match pm_cl[t]? with
  | some r => (List.range r.2.2).all fun k => pm_in ((pm_ui.getD t []).getD k 0) (u_lay r.1 r.2.1 k)
  | none => true
theorem pm_u_ok0 : ((List.range 8).all pm_uchk) = true := by decide +kernel
theorem pm_cl_lt {t : Nat} {r : vw_C} (h : pm_cl[t]? = some r) : t < 8 := (List.getElem?_eq_some_iff.mp h).1
theorem pm_u_ok {t : Nat} {r : vw_C} (h : pm_cl[t]? = some r) : ∀ w ∈ u_ws r.1 r.2.1 r.2.2, w ∈ pm_T := by
  intro w hw
  obtain ⟨k, hk, rfl⟩ := List.mem_map.mp hw
  have h1 := List.all_eq_true.mp pm_u_ok0 t (List.mem_range.mpr (pm_cl_lt h))
  simp only [pm_uchk, h] at h1
  exact pm_in_mem (List.all_eq_true.mp h1 k hk)
def pm_flchk (o x : Nat) (q : Nat × Nat × Nat) : Bool := match pm_cl[q.1]? with
  | some r => decide (q.2.1 < r.2.2) && pm_in q.2.2 (.fieldLink (pm_onm o) x (r.2.1 q.2.1).1 (r.2.1 q.2.1).2.1 (r.2.1 q.2.1).2.2.1)
  | none => false
theorem pm_fl_ok0 : (pm_fls.zipIdx.all fun q => q.1.all fun z => pm_flchk q.2 z.1 z.2) = true := by decide +kernel
theorem pm_fl_ok {o x t j : Nat} (h : pm_fl o x = some (t, j)) : ∃ r0 : vw_C, pm_cl[t]? = some r0 ∧ j < r0.2.2 ∧ Cond.fieldLink (pm_onm o) x (r0.2.1 j).1 (r0.2.1 j).2.1 (r0.2.1 j).2.2.1 ∈ pm_T ∧ ∀ w ∈ u_ws r0.1 r0.2.1 r0.2.2, w ∈ pm_T := by
  obtain ⟨⟨t', j', n⟩, h1, h2⟩ := Option.map_eq_some_iff.mp h
  cases h2
  have h3 := pm_all pm_fl_ok0 h1
  unfold pm_flchk at h3
  split at h3
  · next r hr =>
    simp only [Bool.and_eq_true, decide_eq_true_eq] at h3
    exact ⟨r, hr, h3.1, pm_in_mem h3.2, pm_u_ok hr⟩
  · cases h3
theorem pm_ft_ok {t : Nat} {r : vw_C} (h : pm_cl[t]? = some r) : (∀ k, k < r.2.2 → parseFieldDescriptor (r.2.1 k).2.2.1 = some (pm_ft t k)) ∧ ∀ a, a < r.2.2 → ∀ b, b < r.2.2 → a ≠ b → (r.2.1 a).2.1 ≠ (r.2.1 b).2.1 := by
  match t, h with
  | 0, h => cases h; exact ⟨tyX0_ok, nmX0⟩
  | 1, h => cases h; exact ⟨tyX1_ok, nmX1⟩
  | 2, h => cases h; exact ⟨tyX2_ok, nmX2⟩
  | 3, h => cases h; exact ⟨tyX3_ok, nmX3⟩
  | 4, h => cases h; exact ⟨tyX4_ok, nmX4⟩
  | 5, h => cases h; exact ⟨tyX5_ok, nmX5⟩
  | 6, h => cases h; exact ⟨tyX6_ok, nmX6⟩
  | 7, h => cases h; exact ⟨tyX7_ok, nmX7⟩
  | n + 8, h => exact absurd (pm_cl_lt h) (by omega)
def pm_fchk (t : Nat) : Bool := match pm_cl[t]? with
  | some r => (List.range r.2.2).all fun k => decide (pm_fin t k = (r.2.1 k).2.2.2) && decide ((r.2.1 k).1 = pm_onm t)
  | none => true
theorem pm_fin_ok0 : ((List.range 8).all pm_fchk) = true := by decide +kernel
theorem pm_fin_ok {t j : Nat} {r : vw_C} (h : pm_cl[t]? = some r) (hj : j < r.2.2) : pm_fin t j = (r.2.1 j).2.2.2 ∧ (r.2.1 j).1 = pm_onm t := by
  have h1 := List.all_eq_true.mp pm_fin_ok0 t (List.mem_range.mpr (pm_cl_lt h))
  simp only [pm_fchk, h] at h1
  have h2 := List.all_eq_true.mp h1 j (List.mem_range.mpr hj)
  simp only [Bool.and_eq_true, decide_eq_true_eq] at h2
  exact h2
theorem pm_ae_ok {k u : Nat} (h : pm_ae k = some u) : ∃ r : vw_C, pm_cl[u]? = some r ∧ pm_at k = some (.object r.1) ∧ u < 100 := by
  match k, h with
  | 0, h => cases h
  | 1, h => cases h
  | 2, h => cases h; exact ⟨_, rfl, rfl, by decide⟩
  | 3, h => cases h; exact ⟨_, rfl, rfl, by decide⟩
  | 4, h => cases h; exact ⟨_, rfl, rfl, by decide⟩
  | 5, h => cases h; exact ⟨_, rfl, rfl, by decide⟩
  | 6, h => cases h; exact ⟨_, rfl, rfl, by decide⟩
  | 7, h => cases h; exact ⟨_, rfl, rfl, by decide⟩
  | n + 8, h => simp [pm_ae, pm_aes] at h
theorem pm_T_ints : Cond.arrayClass .int ∈ pm_T := pm_in_mem (n := 171) (by decide +kernel)
theorem pm_T_booleans : Cond.arrayClass .boolean ∈ pm_T := pm_in_mem (n := 633) (by decide +kernel)
def pm_insti : List Nat := [52, 65, 157, 172, 76, 99, 117, 555]
def pm_inii : List Nat := [43, 44, 48, 49, 45, 46, 47, 50, 42]
def pm_nwchk (o x : Nat) (q : Nat × Nat) : Bool := match pm_cl[q.1]? with
  | some r => pm_in q.2 (.classLink (pm_onm o) x r.1) && pm_in (pm_insti.getD q.1 0) (.instantiable r.1 r.2.2) && pm_in (pm_inii.getD q.1 0) (.initialized r.1)
  | none => false
theorem pm_nw_ok0 : (pm_nws.zipIdx.all fun q => q.1.all fun z => pm_nwchk q.2 z.1 z.2) = true := by decide +kernel
theorem pm_nw_ok {o x t : Nat} (h : pm_nw o x = some t) : ∃ r0 : vw_C, pm_cl[t]? = some r0 ∧ t < 100 ∧ Cond.classLink (pm_onm o) x r0.1 ∈ pm_T ∧ Cond.instantiable r0.1 r0.2.2 ∈ pm_T ∧ Cond.initialized r0.1 ∈ pm_T ∧ ∀ w ∈ u_ws r0.1 r0.2.1 r0.2.2, w ∈ pm_T := by
  obtain ⟨⟨t', n⟩, h1, h2⟩ := Option.map_eq_some_iff.mp h
  cases h2
  have h3 := pm_all pm_nw_ok0 h1
  unfold pm_nwchk at h3
  split at h3
  · next r hr =>
    simp only [Bool.and_eq_true] at h3
    exact ⟨r, hr, by have := pm_cl_lt hr; show t' < 100; have : t' < 8 := this; omega, pm_in_mem h3.1.1, pm_in_mem h3.1.2, pm_in_mem h3.2, pm_u_ok hr⟩
  · cases h3
def pm_anchk (o x : Nat) (q : Nat × Nat) : Bool := match pm_at q.1 with
  | some (.object C) => pm_in q.2 (.classLink (pm_onm o) x C) && decide (C ∈ pm_over)
  | _ => false
theorem pm_an_ok0 : (pm_ans.zipIdx.all fun q => q.1.all fun z => pm_anchk q.2 z.1 z.2) = true := by decide +kernel
theorem pm_an_ok {o x k : Nat} (h : pm_an o x = some k) : ∃ C, pm_at k = some (.object C) ∧ Cond.classLink (pm_onm o) x C ∈ pm_T ∧ C ∈ pm_over := by
  obtain ⟨⟨t', n⟩, h1, h2⟩ := Option.map_eq_some_iff.mp h
  cases h2
  have h3 := pm_all pm_an_ok0 h1
  unfold pm_anchk at h3
  split at h3
  · next C hC =>
    simp only [Bool.and_eq_true, decide_eq_true_eq] at h3
    exact ⟨C, hC, pm_in_mem h3.1, h3.2⟩
  · cases h3
def pm_l2chk (o x : Nat) (q : Int64 × Nat) : Bool := pm_in q.2 (.constantLong (pm_onm o) x q.1)
theorem pm_l2_ok0 : (pm_l2s.zipIdx.all fun q => q.1.all fun z => pm_l2chk q.2 z.1 z.2) = true := by decide +kernel
theorem pm_l2_ok {o x : Nat} {v : Int64} (h : pm_l2 o x = some v) : Cond.constantLong (pm_onm o) x v ∈ pm_T := by
  obtain ⟨⟨v', n⟩, h1, h2⟩ := Option.map_eq_some_iff.mp h
  cases h2
  have h3 := pm_all pm_l2_ok0 h1
  unfold pm_l2chk at h3
  exact pm_in_mem h3
theorem pm_m_all {Q : pm_M → Prop} (h0 : Q pm_m0) (h : ∀ q ∈ pm_ms, Q q) (y : Nat) : Q (pm_m y) := by
  unfold pm_m
  rw [List.getD_eq_getElem?_getD]
  cases h1 : pm_ms[y]? with
  | none => exact h0
  | some q => exact h q (List.mem_of_getElem? h1)
theorem pm_maxL_le (y : Nat) : pm_maxL y ≤ 14 := pm_m_all (Q := fun q => q.2.2.1 ≤ 14) (by decide) (by decide +kernel) y
theorem pm_plain (y : Nat) : plainName (pm_y y).cls = true := pm_m_all (Q := fun q => plainName q.1.cls = true) (by decide +kernel) (by decide +kernel) y
theorem pm_y_cls (y : Nat) : (pm_y y).cls = pm_own y := pm_m_all (Q := fun q => q.1.cls = pm_onm q.2.2.2.2.1) (by decide +kernel) (by decide +kernel) y
theorem pm_ini_ok {y : Nat} (h : pm_ini y = true) : (pm_y y).name = "<init>" := pm_m_all (Q := fun q => q.2.2.2.2.2 = true → q.1.name = "<init>") (by decide +kernel) (by decide +kernel) y h
abbrev pm_C : Type := Nat × Nat × Nat × Nat × Nat × Nat × Nat
def pm_cod (y n : Nat) : Bool := pm_in n (.code (pm_y y) (pm_code y) (pm_maxL y) (pm_ret y))
def pm_hasc (y : Nat) : Bool := decide (y < 117)
def pm_d3 (y n : Nat) : Bool := decide ((pm_y y).cls ≠ "java/lang/invoke/MethodHandle") && decide ((pm_y y).cls ≠ "java/lang/invoke/VarHandle") && decide ((parseMethodDescriptor (pm_y y).desc).map (fun d => d.parameters.length) = some n)
def pm_calchk (o x : Nat) (q : pm_C) : Bool :=
  if q.1 = 4 then pm_in q.2.2.2.1 (.methodLink (pm_onm o) x Lib.objectInit)
  else pm_hasc q.2.1 && pm_in (pm_inii.getD (pm_oc q.2.1) 0) (.initialized (pm_y q.2.1).cls) &&
    (if q.1 = 1 then pm_d3 q.2.1 q.2.2.1 && pm_in q.2.2.2.1 (.methodLink (pm_onm o) x (pm_y q.2.1)) && pm_in q.2.2.2.2.2.1 (.static (pm_y q.2.1))
    else pm_d3 q.2.1 (q.2.2.1 - 1) && pm_in q.2.2.2.2.2.1 (.instanceMethod (pm_y q.2.1)) &&
      (if q.1 = 0 then pm_in q.2.2.2.1 (.methodLink (pm_onm o) x (pm_y q.2.1)) && pm_in q.2.2.2.2.2.2 (.selects (pm_y q.2.1).cls (pm_y q.2.1) (pm_y q.2.1)) && decide (pm_oc q.2.1 < 8)
      else decide ((pm_y q.2.1).name = "<init>") && decide (pm_ret q.2.1 = none) &&
        (if q.1 = 2 then pm_in q.2.2.2.1 (.methodLink (pm_onm o) x (pm_y q.2.1)) else decide (q.1 = 3) && pm_nests.any fun z => decide (z.1 = pm_onm o ∧ z.2.1 = x ∧ z.2.2.1 = pm_y q.2.1))))
