abbrev RV : String := "HybridTrack$Vehicle"
abbrev RH : String := "HybridTrack"
abbrev RM : String := "HybridTrackModel"
abbrev RW : String := "HybridTrackLaw"
def TV : u_T := fun k => match k with
  | 0 => ("HybridTrack$Vehicle", "isTrain", "Z", false)
  | 1 => ("HybridTrack$Vehicle", "onTrack", "Z", false)
  | 2 => ("HybridTrack$Vehicle", "front", "I", false)
  | 3 => ("HybridTrack$Vehicle", "length", "I", false)
  | 4 => ("HybridTrack$Vehicle", "speed", "I", false)
  | 5 => ("HybridTrack$Vehicle", "end", "I", false)
  | 6 => ("HybridTrack$Vehicle", "silent", "Z", false)
  | 7 => ("HybridTrack$Vehicle", "whole", "Z", false)
  | 8 => ("HybridTrack$Vehicle", "age", "I", false)
  | 9 => ("HybridTrack$Vehicle", "reportedFront", "I", false)
  | 10 => ("HybridTrack$Vehicle", "reportedWhole", "Z", false)
  | 11 => ("HybridTrack$Vehicle", "tailSection", "I", false)
  | _ => ("HybridTrack$Vehicle", "tailSectionBefore", "I", false)
def tyV : Nat → FieldType := fun k => match k with
  | 0 => .boolean
  | 1 => .boolean
  | 2 => .int
  | 3 => .int
  | 4 => .int
  | 5 => .int
  | 6 => .boolean
  | 7 => .boolean
  | 8 => .int
  | 9 => .int
  | 10 => .boolean
  | 11 => .int
  | _ => .int
theorem nmV : ∀ a, a < 13 → ∀ b, b < 13 → a ≠ b → (TV a).2.1 ≠ (TV b).2.1 := by decide +kernel
theorem tyV_ok : ∀ k, k < 13 → parseFieldDescriptor (TV k).2.2.1 = some (tyV k) := by decide +kernel
set_option maxRecDepth 100000 in
theorem inV : ∀ w ∈ u_ws RV TV 13, w ∈ ht_tb := by decide +kernel
def TH : u_T := fun k => match k with
  | 0 => ("HybridTrack", "vehicles", "[LHybridTrack$Vehicle;", true)
  | 1 => ("HybridTrack", "came", "I", false)
  | 2 => ("HybridTrack", "ticksMade", "I", false)
  | 3 => ("HybridTrack", "states", "[I", true)
  | 4 => ("HybridTrack", "locatedTrains", "[I", true)
  | 5 => ("HybridTrack", "loneTrain", "[I", true)
  | _ => ("HybridTrack", "loneTrainBefore", "[I", true)
def tyH : Nat → FieldType := fun k => match k with
  | 0 => .array (.object "HybridTrack$Vehicle")
  | 1 => .int
  | 2 => .int
  | 3 => .array .int
  | 4 => .array .int
  | 5 => .array .int
  | _ => .array .int
theorem nmH : ∀ a, a < 7 → ∀ b, b < 7 → a ≠ b → (TH a).2.1 ≠ (TH b).2.1 := by decide +kernel
theorem tyH_ok : ∀ k, k < 7 → parseFieldDescriptor (TH k).2.2.1 = some (tyH k) := by decide +kernel
set_option maxRecDepth 100000 in
theorem inH : ∀ w ∈ u_ws RH TH 7, w ∈ ht_tb := by decide +kernel
def TM : u_T := fun k => match k with
  | 0 => ("HybridTrackModel", "thrown", "I", false)
  | 1 => ("HybridTrackModel", "train", "[Z", true)
  | 2 => ("HybridTrackModel", "there", "[Z", true)
  | 3 => ("HybridTrackModel", "front", "[I", true)
  | 4 => ("HybridTrackModel", "length", "[I", true)
  | 5 => ("HybridTrackModel", "speed", "[I", true)
  | 6 => ("HybridTrackModel", "end", "[I", true)
  | 7 => ("HybridTrackModel", "silent", "[Z", true)
  | 8 => ("HybridTrackModel", "whole", "[Z", true)
  | 9 => ("HybridTrackModel", "told", "[I", true)
  | 10 => ("HybridTrackModel", "toldLast", "[I", true)
  | 11 => ("HybridTrackModel", "toldWhole", "[Z", true)
  | 12 => ("HybridTrackModel", "age", "[I", true)
  | 13 => ("HybridTrackModel", "before", "[I", true)
  | 14 => ("HybridTrackModel", "came", "I", false)
  | 15 => ("HybridTrackModel", "states", "[I", true)
  | 16 => ("HybridTrackModel", "next", "[I", true)
  | 17 => ("HybridTrackModel", "alone", "[I", true)
  | _ => ("HybridTrackModel", "ticks", "I", false)
def tyM : Nat → FieldType := fun k => match k with
  | 0 => .int
  | 1 => .array .boolean
  | 2 => .array .boolean
  | 3 => .array .int
  | 4 => .array .int
  | 5 => .array .int
  | 6 => .array .int
  | 7 => .array .boolean
  | 8 => .array .boolean
  | 9 => .array .int
  | 10 => .array .int
  | 11 => .array .boolean
  | 12 => .array .int
  | 13 => .array .int
  | 14 => .int
  | 15 => .array .int
  | 16 => .array .int
  | 17 => .array .int
  | _ => .int
theorem nmM : ∀ a, a < 19 → ∀ b, b < 19 → a ≠ b → (TM a).2.1 ≠ (TM b).2.1 := by decide +kernel
theorem tyM_ok : ∀ k, k < 19 → parseFieldDescriptor (TM k).2.2.1 = some (tyM k) := by decide +kernel
set_option maxRecDepth 100000 in
theorem inM : ∀ w ∈ u_ws RM TM 19, w ∈ ht_tb := by decide +kernel
abbrev ht_cl : List vw_C := [(RV, TV, 13), (RH, TH, 7), (RM, TM, 19)]
abbrev kH_init : List Cond := Cond.code yH_init cH_init 2 none :: ht_tb
abbrev kH_enter : List Cond := Cond.code yH_enter cH_enter 4 (some .int) :: ht_tb
abbrev kH_drive : List Cond := Cond.code yH_drive cH_drive 5 (some .int) :: ht_tb
abbrev kH_silence : List Cond := Cond.code yH_silence cH_silence 5 (some .int) :: ht_tb
abbrev kH_authorise : List Cond := Cond.code yH_authorise cH_authorise 6 (some .int) :: ht_tb
abbrev kH_relent : List Cond := Cond.code yH_relent cH_relent 4 (some .int) :: ht_tb
abbrev kH_lose : List Cond := Cond.code yH_lose cH_lose 4 (some .int) :: ht_tb
abbrev kH_confirm : List Cond := Cond.code yH_confirm cH_confirm 3 (some .int) :: ht_tb
abbrev kH_clear : List Cond := Cond.code yH_clear cH_clear 2 (some .int) :: ht_tb
abbrev kH_tick : List Cond := Cond.code yH_tick cH_tick 3 (some .int) :: ht_tb
abbrev kH_state : List Cond := Cond.code yH_state cH_state 2 (some .int) :: ht_tb
abbrev kH_detected : List Cond := Cond.code yH_detected cH_detected 2 (some .int) :: ht_tb
abbrev kH_vehicle : List Cond := Cond.code yH_vehicle cH_vehicle 4 (some .int) :: ht_tb
abbrev kH_count : List Cond := Cond.code yH_count cH_count 2 (some .int) :: ht_tb
abbrev kH_sectionOf : List Cond := Cond.code yH_sectionOf cH_sectionOf 1 (some .int) :: ht_tb
abbrev kH_isOnTrack : List Cond := Cond.code yH_isOnTrack cH_isOnTrack 2 (some .boolean) :: ht_tb
abbrev kH_existingTrain : List Cond := Cond.code yH_existingTrain cH_existingTrain 2 (some (.object "HybridTrack$Vehicle")) :: ht_tb
abbrev kH_isStoodOn : List Cond := Cond.code yH_isStoodOn cH_isStoodOn 4 (some .boolean) :: ht_tb
abbrev kH_isDetectedOccupied : List Cond := Cond.code yH_isDetectedOccupied cH_isDetectedOccupied 3 (some .boolean) :: ht_tb
abbrev kH_isSectionStoodOn : List Cond := Cond.code yH_isSectionStoodOn cH_isSectionStoodOn 3 (some .boolean) :: ht_tb
abbrev kH_isAnyClaimed : List Cond := Cond.code yH_isAnyClaimed cH_isAnyClaimed 5 (some .boolean) :: ht_tb
abbrev kH_isAnyClaimedByMute : List Cond := Cond.code yH_isAnyClaimedByMute cH_isAnyClaimedByMute 4 (some .boolean) :: ht_tb
abbrev kH_farthestFreeFrom : List Cond := Cond.code yH_farthestFreeFrom cH_farthestFreeFrom 5 (some .int) :: ht_tb
abbrev kH_trainsThatCame : List Cond := Cond.code yH_trainsThatCame cH_trainsThatCame 3 (some .int) :: ht_tb
abbrev kH_sectionsInState : List Cond := Cond.code yH_sectionsInState cH_sectionsInState 4 (some .int) :: ht_tb
abbrev kH_sectionsWronglyFree : List Cond := Cond.code yH_sectionsWronglyFree cH_sectionsWronglyFree 3 (some .int) :: ht_tb
abbrev kH_makeTick : List Cond := Cond.code yH_makeTick cH_makeTick 2 none :: ht_tb
abbrev kH_goForward : List Cond := Cond.code yH_goForward cH_goForward 4 none :: ht_tb
abbrev kH_findStates : List Cond := Cond.code yH_findStates cH_findStates 2 none :: ht_tb
abbrev kH_locateTrains : List Cond := Cond.code yH_locateTrains cH_locateTrains 3 none :: ht_tb
abbrev kH_stateByReports : List Cond := Cond.code yH_stateByReports cH_stateByReports 2 (some .int) :: ht_tb
abbrev kH_stateUnderTrains : List Cond := Cond.code yH_stateUnderTrains cH_stateUnderTrains 5 (some .int) :: ht_tb
abbrev kH_staysFree : List Cond := Cond.code yH_staysFree cH_staysFree 5 (some .boolean) :: ht_tb
abbrev kH_isAnyTrainLocated : List Cond := Cond.code yH_isAnyTrainLocated cH_isAnyTrainLocated 4 (some .boolean) :: ht_tb
abbrev kH_wasLeftByBrokenTrain : List Cond := Cond.code yH_wasLeftByBrokenTrain cH_wasLeftByBrokenTrain 4 (some .boolean) :: ht_tb
abbrev kH_wasLeftByWholeTrain : List Cond := Cond.code yH_wasLeftByWholeTrain cH_wasLeftByWholeTrain 3 (some .boolean) :: ht_tb
abbrev kM_init : List Cond := Cond.code yM_init cM_init 2 none :: ht_tb
abbrev kM_thrown : List Cond := Cond.code yM_thrown cM_thrown 1 (some .int) :: ht_tb
abbrev kM_raise : List Cond := Cond.code yM_raise cM_raise 2 (some .int) :: ht_tb
abbrev kM_in : List Cond := Cond.code yM_in cM_in 3 (some .boolean) :: ht_tb
abbrev kM_isTrain : List Cond := Cond.code yM_isTrain cM_isTrain 2 (some .boolean) :: ht_tb
abbrev kM_last : List Cond := Cond.code yM_last cM_last 2 (some .int) :: ht_tb
abbrev kM_standsOn : List Cond := Cond.code yM_standsOn cM_standsOn 4 (some .int) :: ht_tb
abbrev kM_occupied : List Cond := Cond.code yM_occupied cM_occupied 3 (some .boolean) :: ht_tb
abbrev kM_mute : List Cond := Cond.code yM_mute cM_mute 2 (some .boolean) :: ht_tb
abbrev kM_located : List Cond := Cond.code yM_located cM_located 3 (some .boolean) :: ht_tb
abbrev kM_claims : List Cond := Cond.code yM_claims cM_claims 3 (some .boolean) :: ht_tb
abbrev kM_claimed : List Cond := Cond.code yM_claimed cM_claimed 4 (some .boolean) :: ht_tb
abbrev kM_left : List Cond := Cond.code yM_left cM_left 3 (some .boolean) :: ht_tb
abbrev kM_accounted : List Cond := Cond.code yM_accounted cM_accounted 4 (some .boolean) :: ht_tb
abbrev kM_many : List Cond := Cond.code yM_many cM_many 5 (some .int) :: ht_tb
abbrev kM_found : List Cond := Cond.code yM_found cM_found 3 (some .int) :: ht_tb
abbrev kM_findStates : List Cond := Cond.code yM_findStates cM_findStates 4 none :: ht_tb
abbrev kM_report : List Cond := Cond.code yM_report cM_report 2 none :: ht_tb
abbrev kM_enter : List Cond := Cond.code yM_enter cM_enter 4 (some .int) :: ht_tb
abbrev kM_drive : List Cond := Cond.code yM_drive cM_drive 4 (some .int) :: ht_tb
abbrev kM_silence : List Cond := Cond.code yM_silence cM_silence 4 (some .int) :: ht_tb
abbrev kM_authorise : List Cond := Cond.code yM_authorise cM_authorise 3 (some .int) :: ht_tb
abbrev kM_relent : List Cond := Cond.code yM_relent cM_relent 3 (some .int) :: ht_tb
abbrev kM_lose : List Cond := Cond.code yM_lose cM_lose 4 (some .int) :: ht_tb
abbrev kM_confirm : List Cond := Cond.code yM_confirm cM_confirm 2 (some .int) :: ht_tb
abbrev kM_clear : List Cond := Cond.code yM_clear cM_clear 2 (some .int) :: ht_tb
abbrev kM_tickOnce : List Cond := Cond.code yM_tickOnce cM_tickOnce 3 none :: ht_tb
abbrev kM_tick : List Cond := Cond.code yM_tick cM_tick 3 (some .int) :: ht_tb
abbrev kM_state : List Cond := Cond.code yM_state cM_state 2 (some .int) :: ht_tb
abbrev kM_detected : List Cond := Cond.code yM_detected cM_detected 2 (some .int) :: ht_tb
abbrev kM_vehicle : List Cond := Cond.code yM_vehicle cM_vehicle 3 (some .int) :: ht_tb
abbrev kM_countStates : List Cond := Cond.code yM_countStates cM_countStates 4 (some .int) :: ht_tb
abbrev kM_stood : List Cond := Cond.code yM_stood cM_stood 3 (some .boolean) :: ht_tb
abbrev kM_count : List Cond := Cond.code yM_count cM_count 4 (some .int) :: ht_tb
abbrev kV_init : List Cond := Cond.code yV_init cV_init 1 none :: ht_tb
abbrev kV_becomeTrain : List Cond := Cond.code yV_becomeTrain cV_becomeTrain 3 none :: ht_tb
abbrev kV_becomeWagon : List Cond := Cond.code yV_becomeWagon cV_becomeWagon 3 none :: ht_tb
abbrev kV_sendReport : List Cond := Cond.code yV_sendReport cV_sendReport 1 none :: ht_tb
abbrev kV_reportOrAge : List Cond := Cond.code yV_reportOrAge cV_reportOrAge 1 none :: ht_tb
abbrev kV_lastPlace : List Cond := Cond.code yV_lastPlace cV_lastPlace 1 (some .int) :: ht_tb
abbrev kV_standsWithin : List Cond := Cond.code yV_standsWithin cV_standsWithin 3 (some .boolean) :: ht_tb
abbrev kV_isMute : List Cond := Cond.code yV_isMute cV_isMute 1 (some .boolean) :: ht_tb
abbrev kV_isLocatedOn : List Cond := Cond.code yV_isLocatedOn cV_isLocatedOn 2 (some .boolean) :: ht_tb
abbrev kV_claimsWithin : List Cond := Cond.code yV_claimsWithin cV_claimsWithin 3 (some .boolean) :: ht_tb
abbrev kV_hasLeft : List Cond := Cond.code yV_hasLeft cV_hasLeft 2 (some .boolean) :: ht_tb
abbrev hL_enter : List (Nat × Nat × Nat × Nat) := [(0, 10, 13, 13), (0, 10, 17, 15)]
abbrev kL_enter : List Cond := Cond.codeWith yL_enter cL_enter 5 (some .int) hL_enter :: ht_tb
abbrev hL_drive : List (Nat × Nat × Nat × Nat) := [(0, 10, 13, 20), (0, 10, 17, 13)]
abbrev kL_drive : List Cond := Cond.codeWith yL_drive cL_drive 5 (some .int) hL_drive :: ht_tb
abbrev hL_silence : List (Nat × Nat × Nat × Nat) := [(0, 10, 13, 20)]
abbrev kL_silence : List Cond := Cond.codeWith yL_silence cL_silence 5 (some .int) hL_silence :: ht_tb
abbrev hL_authorise : List (Nat × Nat × Nat × Nat) := [(0, 9, 12, 20), (0, 9, 15, 15)]
abbrev kL_authorise : List Cond := Cond.codeWith yL_authorise cL_authorise 4 (some .int) hL_authorise :: ht_tb
abbrev hL_relent : List (Nat × Nat × Nat × Nat) := [(0, 9, 12, 20), (0, 9, 15, 15)]
abbrev kL_relent : List Cond := Cond.codeWith yL_relent cL_relent 4 (some .int) hL_relent :: ht_tb
abbrev hL_lose : List (Nat × Nat × Nat × Nat) := [(0, 10, 13, 20), (0, 10, 17, 13), (0, 10, 21, 15)]
abbrev kL_lose : List Cond := Cond.codeWith yL_lose cL_lose 5 (some .int) hL_lose :: ht_tb
abbrev hL_confirm : List (Nat × Nat × Nat × Nat) := [(0, 9, 12, 20), (0, 9, 15, 15)]
abbrev kL_confirm : List Cond := Cond.codeWith yL_confirm cL_confirm 4 (some .int) hL_confirm :: ht_tb
abbrev hL_clear : List (Nat × Nat × Nat × Nat) := [(0, 9, 12, 20)]
abbrev kL_clear : List Cond := Cond.codeWith yL_clear cL_clear 4 (some .int) hL_clear :: ht_tb
abbrev hL_tick : List (Nat × Nat × Nat × Nat) := [(0, 9, 12, 13)]
abbrev kL_tick : List Cond := Cond.codeWith yL_tick cL_tick 4 (some .int) hL_tick :: ht_tb
abbrev hL_state : List (Nat × Nat × Nat × Nat) := [(0, 9, 12, 13)]
abbrev kL_state : List Cond := Cond.codeWith yL_state cL_state 4 (some .int) hL_state :: ht_tb
abbrev hL_detected : List (Nat × Nat × Nat × Nat) := [(0, 9, 12, 13)]
abbrev kL_detected : List Cond := Cond.codeWith yL_detected cL_detected 4 (some .int) hL_detected :: ht_tb
abbrev hL_vehicle : List (Nat × Nat × Nat × Nat) := [(0, 10, 13, 20), (0, 10, 17, 13)]
abbrev kL_vehicle : List Cond := Cond.codeWith yL_vehicle cL_vehicle 5 (some .int) hL_vehicle :: ht_tb
abbrev hL_count : List (Nat × Nat × Nat × Nat) := [(0, 9, 12, 13)]
abbrev kL_count : List Cond := Cond.codeWith yL_count cL_count 4 (some .int) hL_count :: ht_tb
abbrev ht_nest : List Cond := [Jvm.Cond.methodLinkNest "HybridTrack" (35 : Nat) ({ cls := "HybridTrack$Vehicle", name := "<init>", desc := "()V" } : Jvm.MethodName) "HybridTrack", Jvm.Cond.fieldLinkNest "HybridTrack" (131 : Nat) "HybridTrack$Vehicle" "isTrain" "Z" "HybridTrack", Jvm.Cond.fieldLinkNest "HybridTrack" (139 : Nat) "HybridTrack$Vehicle" "onTrack" "Z" "HybridTrack", Jvm.Cond.fieldLinkNest "HybridTrack" (104 : Nat) "HybridTrack$Vehicle" "front" "I" "HybridTrack", Jvm.Cond.fieldLinkNest "HybridTrack" (107 : Nat) "HybridTrack$Vehicle" "length" "I" "HybridTrack", Jvm.Cond.fieldLinkNest "HybridTrack" (79 : Nat) "HybridTrack$Vehicle" "speed" "I" "HybridTrack", Jvm.Cond.fieldLinkNest "HybridTrack" (92 : Nat) "HybridTrack$Vehicle" "end" "I" "HybridTrack", Jvm.Cond.fieldLinkNest "HybridTrack" (82 : Nat) "HybridTrack$Vehicle" "silent" "Z" "HybridTrack", Jvm.Cond.fieldLinkNest "HybridTrack" (119 : Nat) "HybridTrack$Vehicle" "whole" "Z" "HybridTrack", Jvm.Cond.fieldLinkNest "HybridTrack" (163 : Nat) "HybridTrack$Vehicle" "age" "I" "HybridTrack", Jvm.Cond.fieldLinkNest "HybridTrack" (95 : Nat) "HybridTrack$Vehicle" "reportedFront" "I" "HybridTrack", Jvm.Cond.fieldLinkNest "HybridTrack" (122 : Nat) "HybridTrack$Vehicle" "reportedWhole" "Z" "HybridTrack", Jvm.Cond.methodLinkNest "HybridTrack" (176 : Nat) ({ cls := "HybridTrack$Vehicle", name := "standsWithin", desc := "(II)Z" } : Jvm.MethodName) "HybridTrack", Jvm.Cond.methodLinkNest "HybridTrack" (179 : Nat) ({ cls := "HybridTrack$Vehicle", name := "claimsWithin", desc := "(II)Z" } : Jvm.MethodName) "HybridTrack", Jvm.Cond.methodLinkNest "HybridTrack" (66 : Nat) ({ cls := "HybridTrack$Vehicle", name := "becomeTrain", desc := "(II)V" } : Jvm.MethodName) "HybridTrack", Jvm.Cond.methodLinkNest "HybridTrack" (201 : Nat) ({ cls := "HybridTrack$Vehicle", name := "isLocatedOn", desc := "(I)Z" } : Jvm.MethodName) "HybridTrack", Jvm.Cond.methodLinkNest "HybridTrack" (86 : Nat) ({ cls := "HybridTrack$Vehicle", name := "isMute", desc := "()Z" } : Jvm.MethodName) "HybridTrack", Jvm.Cond.methodLinkNest "HybridTrack" (219 : Nat) ({ cls := "HybridTrack$Vehicle", name := "hasLeft", desc := "(I)Z" } : Jvm.MethodName) "HybridTrack", Jvm.Cond.methodLinkNest "HybridTrack" (112 : Nat) ({ cls := "HybridTrack$Vehicle", name := "lastPlace", desc := "()I" } : Jvm.MethodName) "HybridTrack", Jvm.Cond.methodLinkNest "HybridTrack" (116 : Nat) ({ cls := "HybridTrack$Vehicle", name := "becomeWagon", desc := "(II)V" } : Jvm.MethodName) "HybridTrack", Jvm.Cond.methodLinkNest "HybridTrack" (189 : Nat) ({ cls := "HybridTrack$Vehicle", name := "reportOrAge", desc := "()V" } : Jvm.MethodName) "HybridTrack"]
theorem ht_gd {w : Cond} (h : w ∈ ht_tb) : w ∈ ht_tb ∧ ((w.onTables && w.keeps) = true ∨ ∃ ty, w = .arrayClass ty) := ⟨h, good_of_word (List.mem_filter.mp h).2⟩
theorem ht_gW {w : Cond} (h : w ∈ ht_tb) : GoodIn ht_tb (w :: ht_tb) := fun _ hw => (List.mem_cons.mp hw).elim (fun e => by rw [e]; exact ht_gd h) ht_gd
theorem ht_gV {own C : String} {i : Nat} {y : MethodName} {w : Cond} (h1 : Cond.methodLink own i y ∈ ht_tb) (h2 : Cond.instanceMethod y ∈ ht_tb) (h3 : Cond.selects C y y ∈ ht_tb) (h4 : Cond.initialized C ∈ ht_tb) (h5 : w ∈ ht_tb) : GoodIn ht_tb (wsV own i C y (w :: ht_tb)) := by
  intro z hz
  simp only [wsV, List.cons_append, List.nil_append, List.mem_cons] at hz
  rcases hz with rfl | rfl | rfl | rfl | rfl | hz
  · exact ht_gd h1
  · exact ht_gd h2
  · exact ht_gd h3
  · exact ht_gd h4
  · exact ht_gd h5
  · exact ht_gd hz
theorem ht_gS {own : String} {i : Nat} {y : MethodName} {w : Cond} (h1 : Cond.methodLink own i y ∈ ht_tb) (h2 : Cond.static y ∈ ht_tb) (h4 : Cond.initialized own ∈ ht_tb) (h5 : w ∈ ht_tb) : GoodIn ht_tb (wsS own i y (w :: ht_tb)) := by
  intro z hz
  simp only [wsS, List.cons_append, List.nil_append, List.mem_cons] at hz
  rcases hz with rfl | rfl | rfl | rfl | hz
  · exact ht_gd h1
  · exact ht_gd h2
  · exact ht_gd h4
  · exact ht_gd h5
  · exact ht_gd hz
def ht_N (U : State) : Prop := ∀ w ∈ ht_nest, va_Nw w U
theorem ht_N.warm {s U : State} (hW : s.WarmedH U.vm) (h : ht_N s) : ht_N U := by
  intro w hw
  have h1 := h w hw
  simp only [ht_nest, List.mem_cons, List.not_mem_nil, or_false] at hw
  rcases hw with rfl | rfl | rfl | rfl | rfl | rfl | rfl | rfl | rfl | rfl | rfl | rfl | rfl | rfl | rfl | rfl | rfl | rfl | rfl | rfl | rfl <;> first | exact va_Nw.warmF hW h1 | exact va_Nw.warmM hW h1
theorem ht_N.same {u U : State} (hv : u.vm = U.vm) (h : ht_N u) : ht_N U := by
  intro w hw
  have h1 := h w hw
  have h2 : w.onTables = true := by
    simp only [ht_nest, List.mem_cons, List.not_mem_nil, or_false] at hw
    rcases hw with rfl | rfl | rfl | rfl | rfl | rfl | rfl | rfl | rfl | rfl | rfl | rfl | rfl | rfl | rfl | rfl | rfl | rfl | rfl | rfl | rfl <;> rfl
  exact va_Nw.same h2 hv h1
theorem ht_N.use {s : State} {args : Array Value} (h : ht_N s) {w : Cond} (i : Nat) (hi : ht_nest[i]? = some w) (ho : w.onTables = true) : w.before args s = true := va_Nw.use ho (h w (List.mem_of_getElem? hi))

