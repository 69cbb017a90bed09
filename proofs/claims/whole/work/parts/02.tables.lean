/-! THE TABLES OF THE CLASS FILES, BY NUMBER: classes 0 to 6 as in vwCl, 7 java/lang/Math, 8 the law; methods by number (ids.json beside the programs). -/
/-- the words of the tables that stay as they are while the machine goes on -/
def zT : List Cond := lw_tbl.filter goodWord
theorem zT_in {w : Cond} (h : w ∈ lw_tbl) (hg : goodWord w = true) : w ∈ zT := List.mem_filter.mpr ⟨h, hg⟩
theorem zT_of {w : Cond} {i : Nat} (h : (decide (lw_tbl[i]? = some w) && goodWord w) = true) : w ∈ zT := by
  rw [Bool.and_eq_true, decide_eq_true_eq] at h
  exact zT_in (List.mem_of_getElem? h.1) h.2
theorem zT_good : ∀ w ∈ zT, (w.onTables && w.keeps) = true ∨ ∃ ty, w = .arrayClass ty := fun _ h => good_of_word (List.mem_filter.mp h).2
theorem zT_sub : ∀ w ∈ zT, w ∈ lw_tbl := fun _ h => (List.mem_filter.mp h).1
/-- the name of a class by its number -/
def zRn : Nat → String := fun c => match c with
  | 0 => RX0
  | 1 => RX1
  | 2 => RX2
  | 3 => RX3
  | 4 => RX4
  | 5 => RX5
  | 6 => RX6
  | 7 => RJ9
  | _ => RL
def zys : List MethodName := [yX0_init, yX0_look, yX0_mark, yX0_seen, yX0_ringsSeen, yX0_seenIn, yX1_init, yX1_has, yX1_flatten, yX1_cut, yX1_liftBehind, yX1_period, yX1_staysWhenTurned, yX1_wayToName, yX1_comesBefore, yX1_liftOnWay, yX1_become, yX2_init, yX2_get, yX2_put, yX3_init, yX3_find, yX3_findOfRosette, yX3_findOfGain, yX3_noteSeenRings, yX3_noteRests, yX3_restOfRing, yX3_restAt, yX3_drawLine, yX3_allOnLine, yX4_init, yX4_become, yX4_dropTurns, yX4_part, yX5_init, yX5_rosette, yX5_lift, yX5_at, yX5_about, yX5_name, yX5_alike, yX5_sameName, yX5_rosetteOf, yX5_setting, yX5_told, yX5_slip, yX5_mayBeSet, yX5_slipAt, yX5_place, yX5_closes, yX5_thin, yX5_wall, yX5_meets, yX5_overlaid, yX5_wallAt, yX5_slippedPlace, yX5_placeOf, yX5_see, yX5_print, yX5_makers, yX5_maker, yX5_off, yX5_shown, yX5_count, yX5_slipsNotNought, yX5_seenPlace, yX5_currentLength, yX5_noteFitting, yX5_ringFits, yX5_firstRingOff, yX5_fittingFrom, yX5_firstClicks, yX5_hasTurn, yX5_isRing, yX5_within, yX6_init, yX6_in, yX6_isRosette, yX6_begins, yX6_rosette, yX6_lift, yX6_at, yX6_by, yX6_liftAt, yX6_period, yX6_about, yX6_turned, yX6_against, yX6_turnOf, yX6_name, yX6_alike, yX6_isSetting, yX6_lays, yX6_setting, yX6_told, yX6_slip, yX6_slipAt, yX6_lifted, yX6_placed, yX6_placeAt, yX6_place, yX6_closes, yX6_wallAt, yX6_thin, yX6_wall, yX6_meets, yX6_overlaid, yX6_see, yX6_seen, yX6_isRing, yX6_ringsSeen, yX6_print, yX6_ground, yX6_makes, yX6_makersTo, yX6_makers, yX6_maker, yX6_off, yX6_isMade, yX6_shown, yX6_count, yJ9_floorMod_7cf53, yJ9_abs_0f7a4, yJ9_max_7cf53, yJ9_min_7cf53, yL_law]
def zBs : List ByteArray := [cX0_init, cX0_look, cX0_mark, cX0_seen, cX0_ringsSeen, cX0_seenIn, cX1_init, cX1_has, cX1_flatten, cX1_cut, cX1_liftBehind, cX1_period, cX1_staysWhenTurned, cX1_wayToName, cX1_comesBefore, cX1_liftOnWay, cX1_become, cX2_init, cX2_get, cX2_put, cX3_init, cX3_find, cX3_findOfRosette, cX3_findOfGain, cX3_noteSeenRings, cX3_noteRests, cX3_restOfRing, cX3_restAt, cX3_drawLine, cX3_allOnLine, cX4_init, cX4_become, cX4_dropTurns, cX4_part, cX5_init, cX5_rosette, cX5_lift, cX5_at, cX5_about, cX5_name, cX5_alike, cX5_sameName, cX5_rosetteOf, cX5_setting, cX5_told, cX5_slip, cX5_mayBeSet, cX5_slipAt, cX5_place, cX5_closes, cX5_thin, cX5_wall, cX5_meets, cX5_overlaid, cX5_wallAt, cX5_slippedPlace, cX5_placeOf, cX5_see, cX5_print, cX5_makers, cX5_maker, cX5_off, cX5_shown, cX5_count, cX5_slipsNotNought, cX5_seenPlace, cX5_currentLength, cX5_noteFitting, cX5_ringFits, cX5_firstRingOff, cX5_fittingFrom, cX5_firstClicks, cX5_hasTurn, cX5_isRing, cX5_within, cX6_init, cX6_in, cX6_isRosette, cX6_begins, cX6_rosette, cX6_lift, cX6_at, cX6_by, cX6_liftAt, cX6_period, cX6_about, cX6_turned, cX6_against, cX6_turnOf, cX6_name, cX6_alike, cX6_isSetting, cX6_lays, cX6_setting, cX6_told, cX6_slip, cX6_slipAt, cX6_lifted, cX6_placed, cX6_placeAt, cX6_place, cX6_closes, cX6_wallAt, cX6_thin, cX6_wall, cX6_meets, cX6_overlaid, cX6_see, cX6_seen, cX6_isRing, cX6_ringsSeen, cX6_print, cX6_ground, cX6_makes, cX6_makersTo, cX6_makers, cX6_maker, cX6_off, cX6_isMade, cX6_shown, cX6_count, cJ9_floorMod_7cf53, cJ9_abs_0f7a4, cJ9_max_7cf53, cJ9_min_7cf53, cL_law]
def zCs : List Nat := [0, 0, 0, 0, 0, 0, 1, 1, 1, 1, 1, 1, 1, 1, 1, 1, 1, 2, 2, 2, 3, 3, 3, 3, 3, 3, 3, 3, 3, 3, 4, 4, 4, 4, 5, 5, 5, 5, 5, 5, 5, 5, 5, 5, 5, 5, 5, 5, 5, 5, 5, 5, 5, 5, 5, 5, 5, 5, 5, 5, 5, 5, 5, 5, 5, 5, 5, 5, 5, 5, 5, 5, 5, 5, 5, 6, 6, 6, 6, 6, 6, 6, 6, 6, 6, 6, 6, 6, 6, 6, 6, 6, 6, 6, 6, 6, 6, 6, 6, 6, 6, 6, 6, 6, 6, 6, 6, 6, 6, 6, 6, 6, 6, 6, 6, 6, 6, 6, 6, 6, 6, 7, 7, 7, 7, 8]
def zMLs : List Nat := [2, 3, 4, 3, 3, 4, 1, 2, 3, 3, 2, 2, 3, 3, 6, 3, 5, 2, 2, 3, 1, 7, 7, 7, 3, 7, 10, 4, 8, 5, 1, 7, 2, 2, 2, 4, 6, 4, 4, 6, 5, 5, 2, 7, 2, 4, 8, 4, 3, 4, 5, 5, 5, 11, 3, 3, 6, 5, 4, 1, 3, 5, 5, 2, 3, 4, 2, 5, 5, 2, 4, 3, 3, 1, 3, 2, 3, 1, 4, 3, 5, 3, 3, 3, 5, 3, 4, 7, 4, 6, 3, 7, 7, 7, 2, 4, 4, 5, 5, 3, 3, 3, 3, 5, 5, 6, 11, 5, 3, 4, 3, 5, 6, 7, 6, 1, 3, 5, 6, 3, 4, 3, 1, 2, 2, 4]
def zRets : List (Option FieldType) := [none, some .int, none, some .int, some .int, some .int, none, some .boolean, none, none, some .int, some .int, some .boolean, some .int, some .boolean, some .int, none, none, some .int, none, none, some .int, some .int, some .int, none, none, some .int, some .int, some .boolean, some .boolean, none, none, none, some .int, none, some .int, some .int, some .int, some .int, some .int, some .int, some .boolean, some (.object "RoseLathe$Rosette"), some .int, some .int, some .int, some .boolean, some .int, some .int, some .int, some .int, some .int, some .int, some .int, some .int, some .int, some .int, some .int, some .int, some .int, some .int, some .int, some .int, some .int, some .int, some .int, some .int, none, some .boolean, some .int, some .int, some .int, some .boolean, some .boolean, some .boolean, none, some .boolean, some .boolean, none, some .int, some .int, some .int, some .int, some .int, some .int, some .int, some .int, some .int, some .int, some .int, some .int, some .boolean, none, some .int, some .int, some .int, some .int, some .int, some .int, some .int, some .int, some .int, some .int, some .int, some .int, some .int, some .int, some .int, some .int, some .boolean, some .int, some .int, some .int, some .boolean, some .int, some .int, some .int, some .int, some .boolean, some .int, some .int, some .int, some .int, some .int, some .int, some .boolean]
def zNps : List Nat := [0, 2, 3, 0, 0, 1, 0, 1, 1, 2, 1, 0, 1, 0, 2, 2, 2, 1, 1, 2, 0, 3, 4, 3, 1, 3, 5, 3, 2, 2, 0, 6, 1, 1, 0, 2, 3, 2, 2, 2, 2, 2, 1, 6, 1, 2, 6, 1, 2, 0, 2, 1, 4, 7, 2, 2, 3, 3, 1, 0, 2, 0, 0, 1, 0, 2, 0, 1, 2, 0, 1, 2, 3, 1, 3, 0, 3, 1, 2, 2, 3, 2, 2, 2, 1, 2, 3, 4, 1, 2, 2, 6, 7, 6, 1, 2, 1, 4, 4, 2, 2, 0, 2, 2, 1, 4, 7, 3, 0, 1, 0, 1, 1, 0, 1, 0, 2, 0, 2, 0, 1, 2, 1, 2, 2, 1]
def zRfs : List Nat := [2, 1, 1, 3, 3, 2, 2, 0, 1, 1, 1, 3, 2, 4, 3, 2, 3, 1, 0, 0, 2, 5, 4, 3, 3, 3, 2, 1, 2, 2, 1, 0, 0, 0, 3, 2, 2, 2, 4, 5, 6, 5, 0, 2, 1, 2, 1, 1, 4, 4, 5, 5, 4, 3, 4, 3, 2, 2, 5, 6, 6, 4, 5, 4, 1, 4, 1, 4, 3, 1, 1, 2, 1, 1, 0, 1, 0, 1, 0, 2, 2, 2, 0, 1, 2, 3, 2, 3, 4, 5, 5, 2, 0, 3, 1, 1, 0, 2, 3, 4, 5, 3, 5, 6, 6, 5, 4, 1, 0, 0, 1, 5, 3, 4, 5, 6, 6, 5, 4, 5, 2, 0, 0, 0, 0, 9]
def zRls : List Nat := [42, 21, 22, 66, 66, 43, 42, 0, 22, 22, 22, 65, 43, 90, 65, 43, 65, 21, 0, 0, 42, 124, 98, 71, 66, 72, 43, 21, 44, 44, 20, 0, 0, 0, 63, 44, 44, 43, 86, 112, 136, 112, 0, 49, 21, 42, 22, 21, 90, 86, 112, 112, 90, 68, 90, 68, 43, 45, 113, 150, 150, 90, 116, 88, 21, 90, 21, 92, 68, 21, 21, 44, 22, 22, 0, 20, 0, 22, 0, 42, 42, 42, 0, 22, 44, 68, 44, 67, 93, 116, 116, 42, 0, 68, 22, 22, 0, 44, 68, 92, 114, 68, 114, 136, 136, 114, 92, 22, 0, 0, 23, 114, 68, 93, 119, 144, 144, 114, 92, 117, 45, 0, 0, 0, 0, 342]
def zMcs : List Nat := [2, 0, 0, 0, 0, 0, 4, 0, 0, 0, 0, 0, 0, 0, 0, 0, 0, 1, 0, 0, 5, 0, 0, 0, 0, 0, 0, 0, 0, 0, 0, 0, 0, 0, 36, 0, 0, 0, 0, 0, 0, 0, 0, 0, 0, 0, 0, 0, 0, 0, 0, 0, 0, 0, 0, 0, 0, 0, 0, 0, 0, 0, 0, 0, 0, 0, 0, 0, 0, 0, 0, 0, 0, 0, 0, 7, 0, 0, 0, 0, 0, 0, 0, 0, 0, 0, 0, 0, 0, 0, 0, 0, 0, 0, 0, 0, 0, 0, 0, 0, 0, 0, 0, 0, 0, 0, 0, 0, 0, 0, 0, 0, 0, 0, 0, 0, 0, 0, 0, 0, 0, 0, 0, 0, 0, 600000]
def zMss : List Nat := [577, 0, 0, 0, 0, 0, 1154, 0, 0, 0, 0, 0, 0, 0, 0, 0, 0, 576, 0, 0, 1160, 0, 0, 0, 0, 0, 0, 0, 0, 0, 0, 0, 0, 0, 7545, 0, 0, 0, 0, 0, 0, 0, 0, 0, 0, 0, 0, 0, 0, 0, 0, 0, 0, 0, 0, 0, 0, 0, 0, 0, 0, 0, 0, 0, 0, 0, 0, 0, 0, 0, 0, 0, 0, 0, 0, 724, 0, 0, 0, 0, 0, 0, 0, 0, 0, 0, 0, 0, 0, 0, 0, 0, 0, 0, 0, 0, 0, 0, 0, 0, 0, 0, 0, 0, 0, 0, 0, 0, 0, 0, 0, 0, 0, 0, 0, 0, 0, 0, 0, 0, 0, 0, 0, 0, 0, 7302250]
def zy (j : Nat) : MethodName := zys.getD j ⟨"", "", ""⟩
def zB (j : Nat) : ByteArray := zBs.getD j ⟨#[]⟩
def zC (j : Nat) : Nat := zCs.getD j 0
def zML (j : Nat) : Nat := zMLs.getD j 0
def zRet (j : Nat) : Option FieldType := zRets.getD j none
def zNp (j : Nat) : Nat := zNps.getD j 0
def zRf (j : Nat) : Nat := zRfs.getD j 0
def zRl (j : Nat) : Nat := zRls.getD j 0
def zMc (j : Nat) : Nat := zMcs.getD j 0
def zMs (j : Nat) : Nat := zMss.getD j 0
def zRm (j : Nat) : Room := { frames := zRf j, cells := zMc j, slots := zMs j, locals := zRl j }
/-- what a method must be -/
def zMok (j : Nat) : Bool := plainFor (zy j) && decide ((zy j).cls = zRn (zC j)) && decide ((zy j).cls ≠ "java/lang/invoke/MethodHandle") && decide ((zy j).cls ≠ "java/lang/invoke/VarHandle") && decide ((parseMethodDescriptor (zy j).desc).map (fun d => d.parameters.length) = some (zNp j))
set_option maxRecDepth 20000 in
theorem zMc0 : lw_tbl[110]? = some (Cond.code (zy 0) (zB 0) (zML 0) (zRet 0)) := rfl
set_option maxRecDepth 20000 in
theorem zMc1 : lw_tbl[368]? = some (Cond.code (zy 1) (zB 1) (zML 1) (zRet 1)) := rfl
set_option maxRecDepth 20000 in
theorem zMc2 : lw_tbl[373]? = some (Cond.code (zy 2) (zB 2) (zML 2) (zRet 2)) := rfl
set_option maxRecDepth 20000 in
theorem zMc3 : lw_tbl[385]? = some (Cond.code (zy 3) (zB 3) (zML 3) (zRet 3)) := rfl
set_option maxRecDepth 20000 in
theorem zMc4 : lw_tbl[486]? = some (Cond.code (zy 4) (zB 4) (zML 4) (zRet 4)) := rfl
set_option maxRecDepth 20000 in
theorem zMc5 : lw_tbl[389]? = some (Cond.code (zy 5) (zB 5) (zML 5) (zRet 5)) := rfl
set_option maxRecDepth 20000 in
theorem zMc6 : lw_tbl[158]? = some (Cond.code (zy 6) (zB 6) (zML 6) (zRet 6)) := rfl
set_option maxRecDepth 20000 in
theorem zMc7 : lw_tbl[222]? = some (Cond.code (zy 7) (zB 7) (zML 7) (zRet 7)) := rfl
set_option maxRecDepth 20000 in
theorem zMc8 : lw_tbl[209]? = some (Cond.code (zy 8) (zB 8) (zML 8) (zRet 8)) := rfl
set_option maxRecDepth 20000 in
theorem zMc9 : lw_tbl[237]? = some (Cond.code (zy 9) (zB 9) (zML 9) (zRet 9)) := rfl
set_option maxRecDepth 20000 in
theorem zMc10 : lw_tbl[226]? = some (Cond.code (zy 10) (zB 10) (zML 10) (zRet 10)) := rfl
set_option maxRecDepth 20000 in
theorem zMc11 : lw_tbl[249]? = some (Cond.code (zy 11) (zB 11) (zML 11) (zRet 11)) := rfl
set_option maxRecDepth 20000 in
theorem zMc12 : lw_tbl[253]? = some (Cond.code (zy 12) (zB 12) (zML 12) (zRet 12)) := rfl
set_option maxRecDepth 20000 in
theorem zMc13 : lw_tbl[262]? = some (Cond.code (zy 13) (zB 13) (zML 13) (zRet 13)) := rfl
set_option maxRecDepth 20000 in
theorem zMc14 : lw_tbl[266]? = some (Cond.code (zy 14) (zB 14) (zML 14) (zRet 14)) := rfl
set_option maxRecDepth 20000 in
theorem zMc15 : lw_tbl[270]? = some (Cond.code (zy 15) (zB 15) (zML 15) (zRet 15)) := rfl
set_option maxRecDepth 20000 in
theorem zMc16 : lw_tbl[274]? = some (Cond.code (zy 16) (zB 16) (zML 16) (zRet 16)) := rfl
set_option maxRecDepth 20000 in
theorem zMc17 : lw_tbl[96]? = some (Cond.code (zy 17) (zB 17) (zML 17) (zRet 17)) := rfl
set_option maxRecDepth 20000 in
theorem zMc18 : lw_tbl[233]? = some (Cond.code (zy 18) (zB 18) (zML 18) (zRet 18)) := rfl
set_option maxRecDepth 20000 in
theorem zMc19 : lw_tbl[117]? = some (Cond.code (zy 19) (zB 19) (zML 19) (zRet 19)) := rfl
set_option maxRecDepth 20000 in
theorem zMc20 : lw_tbl[126]? = some (Cond.code (zy 20) (zB 20) (zML 20) (zRet 20)) := rfl
set_option maxRecDepth 20000 in
theorem zMc21 : lw_tbl[398]? = some (Cond.code (zy 21) (zB 21) (zML 21) (zRet 21)) := rfl
set_option maxRecDepth 20000 in
theorem zMc22 : lw_tbl[408]? = some (Cond.code (zy 22) (zB 22) (zML 22) (zRet 22)) := rfl
set_option maxRecDepth 20000 in
theorem zMc23 : lw_tbl[425]? = some (Cond.code (zy 23) (zB 23) (zML 23) (zRet 23)) := rfl
set_option maxRecDepth 20000 in
theorem zMc24 : lw_tbl[402]? = some (Cond.code (zy 24) (zB 24) (zML 24) (zRet 24)) := rfl
set_option maxRecDepth 20000 in
theorem zMc25 : lw_tbl[413]? = some (Cond.code (zy 25) (zB 25) (zML 25) (zRet 25)) := rfl
set_option maxRecDepth 20000 in
theorem zMc26 : lw_tbl[418]? = some (Cond.code (zy 26) (zB 26) (zML 26) (zRet 26)) := rfl
set_option maxRecDepth 20000 in
theorem zMc27 : lw_tbl[433]? = some (Cond.code (zy 27) (zB 27) (zML 27) (zRet 27)) := rfl
set_option maxRecDepth 20000 in
theorem zMc28 : lw_tbl[429]? = some (Cond.code (zy 28) (zB 28) (zML 28) (zRet 28)) := rfl
set_option maxRecDepth 20000 in
theorem zMc29 : lw_tbl[438]? = some (Cond.code (zy 29) (zB 29) (zML 29) (zRet 29)) := rfl
set_option maxRecDepth 20000 in
theorem zMc30 : lw_tbl[65]? = some (Cond.code (zy 30) (zB 30) (zML 30) (zRet 30)) := rfl
set_option maxRecDepth 20000 in
theorem zMc31 : lw_tbl[295]? = some (Cond.code (zy 31) (zB 31) (zML 31) (zRet 31)) := rfl
set_option maxRecDepth 20000 in
theorem zMc32 : lw_tbl[214]? = some (Cond.code (zy 32) (zB 32) (zML 32) (zRet 32)) := rfl
set_option maxRecDepth 20000 in
theorem zMc33 : lw_tbl[303]? = some (Cond.code (zy 33) (zB 33) (zML 33) (zRet 33)) := rfl
set_option maxRecDepth 20000 in
theorem zMc34 : lw_tbl[55]? = some (Cond.code (zy 34) (zB 34) (zML 34) (zRet 34)) := rfl
set_option maxRecDepth 20000 in
theorem zMc35 : lw_tbl[198]? = some (Cond.code (zy 35) (zB 35) (zML 35) (zRet 35)) := rfl
set_option maxRecDepth 20000 in
theorem zMc36 : lw_tbl[218]? = some (Cond.code (zy 36) (zB 36) (zML 36) (zRet 36)) := rfl
set_option maxRecDepth 20000 in
theorem zMc37 : lw_tbl[241]? = some (Cond.code (zy 37) (zB 37) (zML 37) (zRet 37)) := rfl
set_option maxRecDepth 20000 in
theorem zMc38 : lw_tbl[245]? = some (Cond.code (zy 38) (zB 38) (zML 38) (zRet 38)) := rfl
set_option maxRecDepth 20000 in
theorem zMc39 : lw_tbl[258]? = some (Cond.code (zy 39) (zB 39) (zML 39) (zRet 39)) := rfl
set_option maxRecDepth 20000 in
theorem zMc40 : lw_tbl[279]? = some (Cond.code (zy 40) (zB 40) (zML 40) (zRet 40)) := rfl
set_option maxRecDepth 20000 in
theorem zMc41 : lw_tbl[282]? = some (Cond.code (zy 41) (zB 41) (zML 41) (zRet 41)) := rfl
set_option maxRecDepth 20000 in
theorem zMc42 : lw_tbl[202]? = some (Cond.code (zy 42) (zB 42) (zML 42) (zRet 42)) := rfl
set_option maxRecDepth 20000 in
theorem zMc43 : lw_tbl[287]? = some (Cond.code (zy 43) (zB 43) (zML 43) (zRet 43)) := rfl
set_option maxRecDepth 20000 in
theorem zMc44 : lw_tbl[299]? = some (Cond.code (zy 44) (zB 44) (zML 44) (zRet 44)) := rfl
set_option maxRecDepth 20000 in
theorem zMc45 : lw_tbl[307]? = some (Cond.code (zy 45) (zB 45) (zML 45) (zRet 45)) := rfl
set_option maxRecDepth 20000 in
theorem zMc46 : lw_tbl[291]? = some (Cond.code (zy 46) (zB 46) (zML 46) (zRet 46)) := rfl
set_option maxRecDepth 20000 in
theorem zMc47 : lw_tbl[325]? = some (Cond.code (zy 47) (zB 47) (zML 47) (zRet 47)) := rfl
set_option maxRecDepth 20000 in
theorem zMc48 : lw_tbl[316]? = some (Cond.code (zy 48) (zB 48) (zML 48) (zRet 48)) := rfl
set_option maxRecDepth 20000 in
theorem zMc49 : lw_tbl[333]? = some (Cond.code (zy 49) (zB 49) (zML 49) (zRet 49)) := rfl
set_option maxRecDepth 20000 in
theorem zMc50 : lw_tbl[338]? = some (Cond.code (zy 50) (zB 50) (zML 50) (zRet 50)) := rfl
set_option maxRecDepth 20000 in
theorem zMc51 : lw_tbl[346]? = some (Cond.code (zy 51) (zB 51) (zML 51) (zRet 51)) := rfl
set_option maxRecDepth 20000 in
theorem zMc52 : lw_tbl[353]? = some (Cond.code (zy 52) (zB 52) (zML 52) (zRet 52)) := rfl
set_option maxRecDepth 20000 in
theorem zMc53 : lw_tbl[360]? = some (Cond.code (zy 53) (zB 53) (zML 53) (zRet 53)) := rfl
set_option maxRecDepth 20000 in
theorem zMc54 : lw_tbl[342]? = some (Cond.code (zy 54) (zB 54) (zML 54) (zRet 54)) := rfl
set_option maxRecDepth 20000 in
theorem zMc55 : lw_tbl[321]? = some (Cond.code (zy 55) (zB 55) (zML 55) (zRet 55)) := rfl
set_option maxRecDepth 20000 in
theorem zMc56 : lw_tbl[329]? = some (Cond.code (zy 56) (zB 56) (zML 56) (zRet 56)) := rfl
set_option maxRecDepth 20000 in
theorem zMc57 : lw_tbl[364]? = some (Cond.code (zy 57) (zB 57) (zML 57) (zRet 57)) := rfl
set_option maxRecDepth 20000 in
theorem zMc58 : lw_tbl[377]? = some (Cond.code (zy 58) (zB 58) (zML 58) (zRet 58)) := rfl
set_option maxRecDepth 20000 in
theorem zMc59 : lw_tbl[394]? = some (Cond.code (zy 59) (zB 59) (zML 59) (zRet 59)) := rfl
set_option maxRecDepth 20000 in
theorem zMc60 : lw_tbl[443]? = some (Cond.code (zy 60) (zB 60) (zML 60) (zRet 60)) := rfl
set_option maxRecDepth 20000 in
theorem zMc61 : lw_tbl[447]? = some (Cond.code (zy 61) (zB 61) (zML 61) (zRet 61)) := rfl
set_option maxRecDepth 20000 in
theorem zMc62 : lw_tbl[451]? = some (Cond.code (zy 62) (zB 62) (zML 62) (zRet 62)) := rfl
set_option maxRecDepth 20000 in
theorem zMc63 : lw_tbl[482]? = some (Cond.code (zy 63) (zB 63) (zML 63) (zRet 63)) := rfl
set_option maxRecDepth 20000 in
theorem zMc64 : lw_tbl[490]? = some (Cond.code (zy 64) (zB 64) (zML 64) (zRet 64)) := rfl
set_option maxRecDepth 20000 in
theorem zMc65 : lw_tbl[381]? = some (Cond.code (zy 65) (zB 65) (zML 65) (zRet 65)) := rfl
set_option maxRecDepth 20000 in
theorem zMc66 : lw_tbl[455]? = some (Cond.code (zy 66) (zB 66) (zML 66) (zRet 66)) := rfl
set_option maxRecDepth 20000 in
theorem zMc67 : lw_tbl[459]? = some (Cond.code (zy 67) (zB 67) (zML 67) (zRet 67)) := rfl
set_option maxRecDepth 20000 in
theorem zMc68 : lw_tbl[463]? = some (Cond.code (zy 68) (zB 68) (zML 68) (zRet 68)) := rfl
set_option maxRecDepth 20000 in
theorem zMc69 : lw_tbl[467]? = some (Cond.code (zy 69) (zB 69) (zML 69) (zRet 69)) := rfl
set_option maxRecDepth 20000 in
theorem zMc70 : lw_tbl[471]? = some (Cond.code (zy 70) (zB 70) (zML 70) (zRet 70)) := rfl
set_option maxRecDepth 20000 in
theorem zMc71 : lw_tbl[474]? = some (Cond.code (zy 71) (zB 71) (zML 71) (zRet 71)) := rfl
set_option maxRecDepth 20000 in
theorem zMc72 : lw_tbl[477]? = some (Cond.code (zy 72) (zB 72) (zML 72) (zRet 72)) := rfl
set_option maxRecDepth 20000 in
theorem zMc73 : lw_tbl[310]? = some (Cond.code (zy 73) (zB 73) (zML 73) (zRet 73)) := rfl
set_option maxRecDepth 20000 in
theorem zMc74 : lw_tbl[205]? = some (Cond.code (zy 74) (zB 74) (zML 74) (zRet 74)) := rfl
set_option maxRecDepth 20000 in
theorem zMc75 : lw_tbl[495]? = some (Cond.code (zy 75) (zB 75) (zML 75) (zRet 75)) := rfl
set_option maxRecDepth 20000 in
theorem zMc76 : lw_tbl[528]? = some (Cond.code (zy 76) (zB 76) (zML 76) (zRet 76)) := rfl
set_option maxRecDepth 20000 in
theorem zMc77 : lw_tbl[525]? = some (Cond.code (zy 77) (zB 77) (zML 77) (zRet 77)) := rfl
set_option maxRecDepth 20000 in
theorem zMc78 : lw_tbl[532]? = some (Cond.code (zy 78) (zB 78) (zML 78) (zRet 78)) := rfl
set_option maxRecDepth 20000 in
theorem zMc79 : lw_tbl[522]? = some (Cond.code (zy 79) (zB 79) (zML 79) (zRet 79)) := rfl
set_option maxRecDepth 20000 in
theorem zMc80 : lw_tbl[536]? = some (Cond.code (zy 80) (zB 80) (zML 80) (zRet 80)) := rfl
set_option maxRecDepth 20000 in
theorem zMc81 : lw_tbl[540]? = some (Cond.code (zy 81) (zB 81) (zML 81) (zRet 81)) := rfl
set_option maxRecDepth 20000 in
theorem zMc82 : lw_tbl[555]? = some (Cond.code (zy 82) (zB 82) (zML 82) (zRet 82)) := rfl
set_option maxRecDepth 20000 in
theorem zMc83 : lw_tbl[552]? = some (Cond.code (zy 83) (zB 83) (zML 83) (zRet 83)) := rfl
set_option maxRecDepth 20000 in
theorem zMc84 : lw_tbl[548]? = some (Cond.code (zy 84) (zB 84) (zML 84) (zRet 84)) := rfl
set_option maxRecDepth 20000 in
theorem zMc85 : lw_tbl[544]? = some (Cond.code (zy 85) (zB 85) (zML 85) (zRet 85)) := rfl
set_option maxRecDepth 20000 in
theorem zMc86 : lw_tbl[571]? = some (Cond.code (zy 86) (zB 86) (zML 86) (zRet 86)) := rfl
set_option maxRecDepth 20000 in
theorem zMc87 : lw_tbl[567]? = some (Cond.code (zy 87) (zB 87) (zML 87) (zRet 87)) := rfl
set_option maxRecDepth 20000 in
theorem zMc88 : lw_tbl[563]? = some (Cond.code (zy 88) (zB 88) (zML 88) (zRet 88)) := rfl
set_option maxRecDepth 20000 in
theorem zMc89 : lw_tbl[559]? = some (Cond.code (zy 89) (zB 89) (zML 89) (zRet 89)) := rfl
set_option maxRecDepth 20000 in
theorem zMc90 : lw_tbl[575]? = some (Cond.code (zy 90) (zB 90) (zML 90) (zRet 90)) := rfl
set_option maxRecDepth 20000 in
theorem zMc91 : lw_tbl[583]? = some (Cond.code (zy 91) (zB 91) (zML 91) (zRet 91)) := rfl
set_option maxRecDepth 20000 in
theorem zMc92 : lw_tbl[586]? = some (Cond.code (zy 92) (zB 92) (zML 92) (zRet 92)) := rfl
set_option maxRecDepth 20000 in
theorem zMc93 : lw_tbl[579]? = some (Cond.code (zy 93) (zB 93) (zML 93) (zRet 93)) := rfl
set_option maxRecDepth 20000 in
theorem zMc94 : lw_tbl[590]? = some (Cond.code (zy 94) (zB 94) (zML 94) (zRet 94)) := rfl
set_option maxRecDepth 20000 in
theorem zMc95 : lw_tbl[594]? = some (Cond.code (zy 95) (zB 95) (zML 95) (zRet 95)) := rfl
set_option maxRecDepth 20000 in
theorem zMc96 : lw_tbl[606]? = some (Cond.code (zy 96) (zB 96) (zML 96) (zRet 96)) := rfl
set_option maxRecDepth 20000 in
theorem zMc97 : lw_tbl[614]? = some (Cond.code (zy 97) (zB 97) (zML 97) (zRet 97)) := rfl
set_option maxRecDepth 20000 in
theorem zMc98 : lw_tbl[610]? = some (Cond.code (zy 98) (zB 98) (zML 98) (zRet 98)) := rfl
set_option maxRecDepth 20000 in
theorem zMc99 : lw_tbl[602]? = some (Cond.code (zy 99) (zB 99) (zML 99) (zRet 99)) := rfl
set_option maxRecDepth 20000 in
theorem zMc100 : lw_tbl[598]? = some (Cond.code (zy 100) (zB 100) (zML 100) (zRet 100)) := rfl
set_option maxRecDepth 20000 in
theorem zMc101 : lw_tbl[619]? = some (Cond.code (zy 101) (zB 101) (zML 101) (zRet 101)) := rfl
set_option maxRecDepth 20000 in
theorem zMc102 : lw_tbl[627]? = some (Cond.code (zy 102) (zB 102) (zML 102) (zRet 102)) := rfl
set_option maxRecDepth 20000 in
theorem zMc103 : lw_tbl[623]? = some (Cond.code (zy 103) (zB 103) (zML 103) (zRet 103)) := rfl
set_option maxRecDepth 20000 in
theorem zMc104 : lw_tbl[631]? = some (Cond.code (zy 104) (zB 104) (zML 104) (zRet 104)) := rfl
set_option maxRecDepth 20000 in
theorem zMc105 : lw_tbl[636]? = some (Cond.code (zy 105) (zB 105) (zML 105) (zRet 105)) := rfl
set_option maxRecDepth 20000 in
theorem zMc106 : lw_tbl[640]? = some (Cond.code (zy 106) (zB 106) (zML 106) (zRet 106)) := rfl
set_option maxRecDepth 20000 in
theorem zMc107 : lw_tbl[644]? = some (Cond.code (zy 107) (zB 107) (zML 107) (zRet 107)) := rfl
set_option maxRecDepth 20000 in
theorem zMc108 : lw_tbl[652]? = some (Cond.code (zy 108) (zB 108) (zML 108) (zRet 108)) := rfl
set_option maxRecDepth 20000 in
theorem zMc109 : lw_tbl[697]? = some (Cond.code (zy 109) (zB 109) (zML 109) (zRet 109)) := rfl
set_option maxRecDepth 20000 in
theorem zMc110 : lw_tbl[693]? = some (Cond.code (zy 110) (zB 110) (zML 110) (zRet 110)) := rfl
set_option maxRecDepth 20000 in
theorem zMc111 : lw_tbl[648]? = some (Cond.code (zy 111) (zB 111) (zML 111) (zRet 111)) := rfl
set_option maxRecDepth 20000 in
theorem zMc112 : lw_tbl[668]? = some (Cond.code (zy 112) (zB 112) (zML 112) (zRet 112)) := rfl
set_option maxRecDepth 20000 in
theorem zMc113 : lw_tbl[664]? = some (Cond.code (zy 113) (zB 113) (zML 113) (zRet 113)) := rfl
set_option maxRecDepth 20000 in
theorem zMc114 : lw_tbl[660]? = some (Cond.code (zy 114) (zB 114) (zML 114) (zRet 114)) := rfl
set_option maxRecDepth 20000 in
theorem zMc115 : lw_tbl[656]? = some (Cond.code (zy 115) (zB 115) (zML 115) (zRet 115)) := rfl
set_option maxRecDepth 20000 in
theorem zMc116 : lw_tbl[673]? = some (Cond.code (zy 116) (zB 116) (zML 116) (zRet 116)) := rfl
set_option maxRecDepth 20000 in
theorem zMc117 : lw_tbl[677]? = some (Cond.code (zy 117) (zB 117) (zML 117) (zRet 117)) := rfl
set_option maxRecDepth 20000 in
theorem zMc118 : lw_tbl[685]? = some (Cond.code (zy 118) (zB 118) (zML 118) (zRet 118)) := rfl
set_option maxRecDepth 20000 in
theorem zMc119 : lw_tbl[681]? = some (Cond.code (zy 119) (zB 119) (zML 119) (zRet 119)) := rfl
set_option maxRecDepth 20000 in
theorem zMc120 : lw_tbl[689]? = some (Cond.code (zy 120) (zB 120) (zML 120) (zRet 120)) := rfl
set_option maxRecDepth 20000 in
theorem zMc121 : lw_tbl[229]? = some (Cond.code (zy 121) (zB 121) (zML 121) (zRet 121)) := rfl
set_option maxRecDepth 20000 in
theorem zMc122 : lw_tbl[356]? = some (Cond.code (zy 122) (zB 122) (zML 122) (zRet 122)) := rfl
set_option maxRecDepth 20000 in
theorem zMc123 : lw_tbl[100]? = some (Cond.code (zy 123) (zB 123) (zML 123) (zRet 123)) := rfl
set_option maxRecDepth 20000 in
theorem zMc124 : lw_tbl[349]? = some (Cond.code (zy 124) (zB 124) (zML 124) (zRet 124)) := rfl
theorem zMk0 : ∀ k, k < 25 → Cond.code (zy (0 + k)) (zB (0 + k)) (zML (0 + k)) (zRet (0 + k)) ∈ lw_tbl := by
  intro k h
  match k, h with
  | 0, _ => exact List.mem_of_getElem? zMc0
  | 1, _ => exact List.mem_of_getElem? zMc1
  | 2, _ => exact List.mem_of_getElem? zMc2
  | 3, _ => exact List.mem_of_getElem? zMc3
  | 4, _ => exact List.mem_of_getElem? zMc4
  | 5, _ => exact List.mem_of_getElem? zMc5
  | 6, _ => exact List.mem_of_getElem? zMc6
  | 7, _ => exact List.mem_of_getElem? zMc7
  | 8, _ => exact List.mem_of_getElem? zMc8
  | 9, _ => exact List.mem_of_getElem? zMc9
  | 10, _ => exact List.mem_of_getElem? zMc10
  | 11, _ => exact List.mem_of_getElem? zMc11
  | 12, _ => exact List.mem_of_getElem? zMc12
  | 13, _ => exact List.mem_of_getElem? zMc13
  | 14, _ => exact List.mem_of_getElem? zMc14
  | 15, _ => exact List.mem_of_getElem? zMc15
  | 16, _ => exact List.mem_of_getElem? zMc16
  | 17, _ => exact List.mem_of_getElem? zMc17
  | 18, _ => exact List.mem_of_getElem? zMc18
  | 19, _ => exact List.mem_of_getElem? zMc19
  | 20, _ => exact List.mem_of_getElem? zMc20
  | 21, _ => exact List.mem_of_getElem? zMc21
  | 22, _ => exact List.mem_of_getElem? zMc22
  | 23, _ => exact List.mem_of_getElem? zMc23
  | 24, _ => exact List.mem_of_getElem? zMc24
  | k + 25, h => exact absurd h (by omega)
theorem zMk1 : ∀ k, k < 25 → Cond.code (zy (25 + k)) (zB (25 + k)) (zML (25 + k)) (zRet (25 + k)) ∈ lw_tbl := by
  intro k h
  match k, h with
  | 0, _ => exact List.mem_of_getElem? zMc25
  | 1, _ => exact List.mem_of_getElem? zMc26
  | 2, _ => exact List.mem_of_getElem? zMc27
  | 3, _ => exact List.mem_of_getElem? zMc28
  | 4, _ => exact List.mem_of_getElem? zMc29
  | 5, _ => exact List.mem_of_getElem? zMc30
  | 6, _ => exact List.mem_of_getElem? zMc31
  | 7, _ => exact List.mem_of_getElem? zMc32
  | 8, _ => exact List.mem_of_getElem? zMc33
  | 9, _ => exact List.mem_of_getElem? zMc34
  | 10, _ => exact List.mem_of_getElem? zMc35
  | 11, _ => exact List.mem_of_getElem? zMc36
  | 12, _ => exact List.mem_of_getElem? zMc37
  | 13, _ => exact List.mem_of_getElem? zMc38
  | 14, _ => exact List.mem_of_getElem? zMc39
  | 15, _ => exact List.mem_of_getElem? zMc40
  | 16, _ => exact List.mem_of_getElem? zMc41
  | 17, _ => exact List.mem_of_getElem? zMc42
  | 18, _ => exact List.mem_of_getElem? zMc43
  | 19, _ => exact List.mem_of_getElem? zMc44
  | 20, _ => exact List.mem_of_getElem? zMc45
  | 21, _ => exact List.mem_of_getElem? zMc46
  | 22, _ => exact List.mem_of_getElem? zMc47
  | 23, _ => exact List.mem_of_getElem? zMc48
  | 24, _ => exact List.mem_of_getElem? zMc49
  | k + 25, h => exact absurd h (by omega)
theorem zMk2 : ∀ k, k < 25 → Cond.code (zy (50 + k)) (zB (50 + k)) (zML (50 + k)) (zRet (50 + k)) ∈ lw_tbl := by
  intro k h
  match k, h with
  | 0, _ => exact List.mem_of_getElem? zMc50
  | 1, _ => exact List.mem_of_getElem? zMc51
  | 2, _ => exact List.mem_of_getElem? zMc52
  | 3, _ => exact List.mem_of_getElem? zMc53
  | 4, _ => exact List.mem_of_getElem? zMc54
  | 5, _ => exact List.mem_of_getElem? zMc55
  | 6, _ => exact List.mem_of_getElem? zMc56
  | 7, _ => exact List.mem_of_getElem? zMc57
  | 8, _ => exact List.mem_of_getElem? zMc58
  | 9, _ => exact List.mem_of_getElem? zMc59
  | 10, _ => exact List.mem_of_getElem? zMc60
  | 11, _ => exact List.mem_of_getElem? zMc61
  | 12, _ => exact List.mem_of_getElem? zMc62
  | 13, _ => exact List.mem_of_getElem? zMc63
  | 14, _ => exact List.mem_of_getElem? zMc64
  | 15, _ => exact List.mem_of_getElem? zMc65
  | 16, _ => exact List.mem_of_getElem? zMc66
  | 17, _ => exact List.mem_of_getElem? zMc67
  | 18, _ => exact List.mem_of_getElem? zMc68
  | 19, _ => exact List.mem_of_getElem? zMc69
  | 20, _ => exact List.mem_of_getElem? zMc70
  | 21, _ => exact List.mem_of_getElem? zMc71
  | 22, _ => exact List.mem_of_getElem? zMc72
  | 23, _ => exact List.mem_of_getElem? zMc73
  | 24, _ => exact List.mem_of_getElem? zMc74
  | k + 25, h => exact absurd h (by omega)
theorem zMk3 : ∀ k, k < 25 → Cond.code (zy (75 + k)) (zB (75 + k)) (zML (75 + k)) (zRet (75 + k)) ∈ lw_tbl := by
  intro k h
  match k, h with
  | 0, _ => exact List.mem_of_getElem? zMc75
  | 1, _ => exact List.mem_of_getElem? zMc76
  | 2, _ => exact List.mem_of_getElem? zMc77
  | 3, _ => exact List.mem_of_getElem? zMc78
  | 4, _ => exact List.mem_of_getElem? zMc79
  | 5, _ => exact List.mem_of_getElem? zMc80
  | 6, _ => exact List.mem_of_getElem? zMc81
  | 7, _ => exact List.mem_of_getElem? zMc82
  | 8, _ => exact List.mem_of_getElem? zMc83
  | 9, _ => exact List.mem_of_getElem? zMc84
  | 10, _ => exact List.mem_of_getElem? zMc85
  | 11, _ => exact List.mem_of_getElem? zMc86
  | 12, _ => exact List.mem_of_getElem? zMc87
  | 13, _ => exact List.mem_of_getElem? zMc88
  | 14, _ => exact List.mem_of_getElem? zMc89
  | 15, _ => exact List.mem_of_getElem? zMc90
  | 16, _ => exact List.mem_of_getElem? zMc91
  | 17, _ => exact List.mem_of_getElem? zMc92
  | 18, _ => exact List.mem_of_getElem? zMc93
  | 19, _ => exact List.mem_of_getElem? zMc94
  | 20, _ => exact List.mem_of_getElem? zMc95
  | 21, _ => exact List.mem_of_getElem? zMc96
  | 22, _ => exact List.mem_of_getElem? zMc97
  | 23, _ => exact List.mem_of_getElem? zMc98
  | 24, _ => exact List.mem_of_getElem? zMc99
  | k + 25, h => exact absurd h (by omega)
theorem zMk4 : ∀ k, k < 25 → Cond.code (zy (100 + k)) (zB (100 + k)) (zML (100 + k)) (zRet (100 + k)) ∈ lw_tbl := by
  intro k h
  match k, h with
  | 0, _ => exact List.mem_of_getElem? zMc100
  | 1, _ => exact List.mem_of_getElem? zMc101
  | 2, _ => exact List.mem_of_getElem? zMc102
  | 3, _ => exact List.mem_of_getElem? zMc103
  | 4, _ => exact List.mem_of_getElem? zMc104
  | 5, _ => exact List.mem_of_getElem? zMc105
  | 6, _ => exact List.mem_of_getElem? zMc106
  | 7, _ => exact List.mem_of_getElem? zMc107
  | 8, _ => exact List.mem_of_getElem? zMc108
  | 9, _ => exact List.mem_of_getElem? zMc109
  | 10, _ => exact List.mem_of_getElem? zMc110
  | 11, _ => exact List.mem_of_getElem? zMc111
  | 12, _ => exact List.mem_of_getElem? zMc112
  | 13, _ => exact List.mem_of_getElem? zMc113
  | 14, _ => exact List.mem_of_getElem? zMc114
  | 15, _ => exact List.mem_of_getElem? zMc115
  | 16, _ => exact List.mem_of_getElem? zMc116
  | 17, _ => exact List.mem_of_getElem? zMc117
  | 18, _ => exact List.mem_of_getElem? zMc118
  | 19, _ => exact List.mem_of_getElem? zMc119
  | 20, _ => exact List.mem_of_getElem? zMc120
  | 21, _ => exact List.mem_of_getElem? zMc121
  | 22, _ => exact List.mem_of_getElem? zMc122
  | 23, _ => exact List.mem_of_getElem? zMc123
  | 24, _ => exact List.mem_of_getElem? zMc124
  | k + 25, h => exact absurd h (by omega)
theorem zMcode (j : Nat) (h : j < 125) : Cond.code (zy j) (zB j) (zML j) (zRet j) ∈ zT := by
  refine zT_in ?_ rfl
  by_cases h0 : j < 25
  · have e := zMk0 (j - 0) (by omega)
    rw [show 0 + (j - 0) = j by omega] at e
    exact e
  by_cases h1 : j < 50
  · have e := zMk1 (j - 25) (by omega)
    rw [show 25 + (j - 25) = j by omega] at e
    exact e
  by_cases h2 : j < 75
  · have e := zMk2 (j - 50) (by omega)
    rw [show 50 + (j - 50) = j by omega] at e
    exact e
  by_cases h3 : j < 100
  · have e := zMk3 (j - 75) (by omega)
    rw [show 75 + (j - 75) = j by omega] at e
    exact e
  by_cases h4 : j < 125
  · have e := zMk4 (j - 100) (by omega)
    rw [show 100 + (j - 100) = j by omega] at e
    exact e
  omega
def zMtab : List (Nat × Nat) := [(0, 47), (1, 47), (2, 47), (3, 47), (4, 47), (5, 47), (6, 49), (7, 49), (8, 49), (9, 49), (10, 49), (11, 49), (12, 49), (13, 49), (14, 49), (15, 49), (16, 49), (17, 45), (18, 45), (19, 45), (20, 48), (21, 48), (22, 48), (23, 48), (24, 48), (25, 48), (26, 48), (27, 48), (28, 48), (29, 48), (30, 44), (31, 44), (32, 44), (33, 44), (34, 43), (35, 43), (36, 43), (37, 43), (38, 43), (39, 43), (40, 43), (41, 43), (42, 43), (43, 43), (44, 43), (45, 43), (46, 43), (47, 43), (48, 43), (49, 43), (50, 43), (51, 43), (52, 43), (53, 43), (54, 43), (55, 43), (56, 43), (57, 43), (58, 43), (59, 43), (60, 43), (61, 43), (62, 43), (63, 43), (64, 43), (65, 43), (66, 43), (67, 43), (68, 43), (69, 43), (70, 43), (71, 43), (72, 43), (73, 43), (74, 43), (75, 50), (76, 50), (77, 50), (78, 50), (79, 50), (80, 50), (81, 50), (82, 50), (83, 50), (84, 50), (85, 50), (86, 50), (87, 50), (88, 50), (89, 50), (90, 50), (91, 50), (92, 50), (93, 50), (94, 50), (95, 50), (96, 50), (97, 50), (98, 50), (99, 50), (100, 50), (101, 50), (102, 50), (103, 50), (104, 50), (105, 50), (106, 50), (107, 50), (108, 50), (109, 50), (110, 50), (111, 50), (112, 50), (113, 50), (114, 50), (115, 50), (116, 50), (117, 50), (118, 50), (119, 50), (120, 50), (121, 46), (122, 46), (123, 46), (124, 46)]
def zMtabOk (q : Nat × Nat) : Bool := zMok q.1 && (decide (lw_tbl[q.2]? = some (Cond.initialized (zy q.1).cls)) && goodWord (Cond.initialized (zy q.1).cls))
set_option maxRecDepth 20000 in
theorem zMtab_ok : zMtab.all zMtabOk = true := by decide +kernel
/-- a call: class, entry, kind (0 virtual, 1 static, 2 constructor, 3 to 5 the same of a nest mate, 6 Object()), method, places of the words -/
def zCtab : List ((Nat × Nat) × (Nat × Nat) × (Nat × Nat × Nat)) := [((0, 3), (6, 0), (111, 0, 0)), ((0, 11), (2, 17), (113, 95, 0)), ((0, 20), (0, 19), (114, 115, 116)), ((0, 24), (0, 18), (369, 231, 232)), ((0, 28), (0, 5), (386, 387, 388)), ((0, 31), (0, 1), (390, 366, 367)), ((1, 3), (6, 0), (159, 0, 0)), ((1, 11), (2, 17), (161, 95, 0)), ((1, 27), (0, 19), (210, 115, 116)), ((1, 31), (1, 121), (227, 228, 0)), ((1, 37), (0, 18), (230, 231, 232)), ((1, 41), (0, 12), (250, 252, 1)), ((1, 45), (0, 10), (254, 224, 225)), ((1, 48), (0, 14), (263, 265, 2)), ((1, 52), (0, 15), (267, 268, 269)), ((1, 55), (0, 8), (275, 207, 208)), ((2, 1), (6, 0), (97, 0, 0)), ((2, 7), (1, 123), (98, 99, 0)), ((3, 3), (6, 0), (127, 0, 0)), ((3, 11), (5, 30), (129, 64, 0)), ((3, 20), (2, 17), (131, 95, 0)), ((3, 43), (0, 24), (399, 401, 9)), ((3, 47), (0, 22), (405, 407, 10)), ((3, 51), (0, 11), (409, 247, 248)), ((3, 56), (0, 25), (410, 412, 11)), ((3, 60), (0, 23), (422, 424, 13)), ((3, 64), (0, 28), (426, 428, 14)), ((3, 68), (0, 29), (435, 437, 16)), ((3, 71), (0, 31), (439, 293, 294)), ((3, 75), (0, 5), (403, 387, 388)), ((3, 81), (0, 19), (404, 115, 116)), ((3, 85), (0, 18), (414, 231, 232)), ((3, 88), (0, 26), (415, 417, 12)), ((3, 93), (0, 1), (420, 366, 367)), ((3, 97), (0, 10), (421, 224, 225)), ((3, 100), (0, 27), (430, 432, 15)), ((3, 103), (4, 74), (434, 204, 0)), ((4, 3), (6, 0), (66, 0, 0)), ((5, 3), (6, 0), (56, 0, 0)), ((5, 17), (5, 30), (63, 64, 0)), ((5, 27), (2, 17), (94, 95, 0)), ((5, 36), (2, 0), (108, 109, 0)), ((5, 43), (5, 20), (124, 125, 0)), ((5, 51), (5, 6), (156, 157, 0)), ((5, 52), (0, 42), (199, 201, 0)), ((5, 56), (1, 74), (203, 204, 0)), ((5, 60), (0, 8), (206, 207, 208)), ((5, 63), (0, 32), (211, 212, 213)), ((5, 66), (0, 7), (219, 220, 221)), ((5, 70), (0, 10), (223, 224, 225)), ((5, 74), (0, 9), (234, 235, 236)), ((5, 82), (0, 11), (246, 247, 248)), ((5, 86), (0, 13), (259, 260, 261)), ((5, 89), (0, 16), (271, 272, 273)), ((5, 93), (1, 41), (280, 281, 0)), ((5, 97), (0, 15), (283, 268, 269)), ((5, 101), (0, 46), (288, 290, 3)), ((5, 105), (0, 31), (292, 293, 294)), ((5, 108), (0, 33), (300, 301, 302)), ((5, 111), (1, 73), (308, 309, 0)), ((5, 114), (0, 18), (311, 231, 232)), ((5, 117), (0, 19), (312, 115, 116)), ((5, 121), (0, 55), (318, 320, 4)), ((5, 127), (1, 123), (334, 99, 0)), ((5, 132), (0, 54), (339, 341, 7)), ((5, 135), (1, 124), (347, 348, 0)), ((5, 138), (1, 122), (354, 355, 0)), ((5, 141), (0, 56), (326, 328, 6)), ((5, 145), (0, 47), (322, 324, 5)), ((5, 163), (0, 1), (365, 366, 367)), ((5, 166), (0, 2), (370, 371, 372)), ((5, 170), (0, 65), (378, 380, 8)), ((5, 173), (0, 3), (382, 383, 384)), ((5, 176), (0, 21), (395, 396, 397)), ((5, 183), (0, 66), (452, 454, 17)), ((5, 186), (0, 67), (456, 458, 18)), ((5, 189), (0, 69), (464, 466, 20)), ((5, 192), (0, 70), (468, 470, 21)), ((5, 195), (1, 71), (472, 473, 0)), ((5, 198), (0, 4), (483, 484, 485)), ((5, 201), (0, 64), (487, 489, 22)), ((5, 204), (0, 68), (460, 462, 19)), ((5, 208), (1, 72), (475, 476, 0)), ((5, 211), (1, 121), (478, 228, 0)), ((6, 1), (6, 0), (496, 0, 0)), ((6, 31), (1, 76), (526, 527, 0)), ((6, 35), (1, 77), (523, 524, 0)), ((6, 39), (0, 78), (529, 531, 23)), ((6, 43), (1, 82), (553, 554, 0)), ((6, 47), (0, 83), (549, 551, 25)), ((6, 50), (0, 84), (545, 547, 24)), ((6, 54), (0, 86), (568, 570, 28)), ((6, 58), (0, 87), (564, 566, 27)), ((6, 62), (0, 88), (560, 562, 26)), ((6, 65), (0, 91), (580, 582, 29)), ((6, 69), (1, 92), (584, 585, 0)), ((6, 73), (0, 97), (611, 613, 33)), ((6, 77), (0, 96), (603, 605, 31)), ((6, 80), (0, 98), (607, 609, 32)), ((6, 83), (0, 99), (599, 601, 30)), ((6, 87), (0, 102), (624, 626, 34)), ((6, 91), (0, 109), (694, 696, 41)), ((6, 94), (0, 108), (649, 651, 35)), ((6, 99), (0, 112), (665, 667, 38)), ((6, 102), (0, 113), (661, 663, 37)), ((6, 106), (0, 114), (657, 659, 36)), ((6, 109), (0, 118), (682, 684, 39)), ((6, 113), (0, 110), (690, 692, 40)), ((8, 9), (2, 34), (53, 54, 0)), ((8, 12), (2, 75), (493, 494, 0)), ((8, 13), (0, 35), (195, 196, 197)), ((8, 17), (0, 79), (519, 520, 521)), ((8, 18), (0, 36), (215, 216, 217)), ((8, 22), (0, 80), (533, 534, 535)), ((8, 23), (0, 37), (238, 239, 240)), ((8, 26), (0, 81), (537, 538, 539)), ((8, 27), (0, 38), (242, 243, 244)), ((8, 30), (0, 85), (541, 542, 543)), ((8, 31), (0, 39), (255, 256, 257)), ((8, 34), (0, 89), (556, 557, 558)), ((8, 35), (0, 40), (276, 277, 278)), ((8, 38), (0, 90), (572, 573, 574)), ((8, 39), (0, 43), (284, 285, 286)), ((8, 43), (0, 93), (576, 577, 578)), ((8, 44), (0, 44), (296, 297, 298)), ((8, 48), (0, 94), (587, 588, 589)), ((8, 49), (0, 45), (304, 305, 306)), ((8, 52), (0, 95), (591, 592, 593)), ((8, 53), (0, 48), (313, 314, 315)), ((8, 56), (0, 100), (595, 596, 597)), ((8, 57), (0, 49), (330, 331, 332)), ((8, 61), (0, 101), (616, 617, 618)), ((8, 62), (0, 50), (335, 336, 337)), ((8, 65), (0, 103), (620, 621, 622)), ((8, 66), (0, 51), (343, 344, 345)), ((8, 69), (0, 104), (628, 629, 630)), ((8, 70), (0, 52), (350, 351, 352)), ((8, 74), (0, 105), (633, 634, 635)), ((8, 75), (0, 53), (357, 358, 359)), ((8, 79), (0, 106), (637, 638, 639)), ((8, 80), (0, 57), (361, 362, 363)), ((8, 83), (0, 107), (641, 642, 643)), ((8, 84), (0, 58), (374, 375, 376)), ((8, 87), (0, 111), (645, 646, 647)), ((8, 88), (0, 59), (391, 392, 393)), ((8, 91), (0, 115), (653, 654, 655)), ((8, 92), (0, 60), (440, 441, 442)), ((8, 95), (0, 116), (670, 671, 672)), ((8, 96), (0, 61), (444, 445, 446)), ((8, 99), (0, 117), (674, 675, 676)), ((8, 100), (0, 62), (448, 449, 450)), ((8, 103), (0, 119), (678, 679, 680)), ((8, 104), (0, 63), (479, 480, 481)), ((8, 107), (0, 120), (686, 687, 688))]
def zCtabOk (q : (Nat × Nat) × (Nat × Nat) × (Nat × Nat × Nat)) : Bool := match q with
  | ((c, ix), (k, t), (p0, p1, p2)) => match k with
    | 0 => (decide (lw_tbl[p0]? = some (Cond.methodLink (zRn c) ix (zy t))) && goodWord (Cond.methodLink (zRn c) ix (zy t))) && ((decide (lw_tbl[p1]? = some (Cond.instanceMethod (zy t))) && goodWord (Cond.instanceMethod (zy t))) && (decide (lw_tbl[p2]? = some (Cond.selects (zy t).cls (zy t) (zy t))) && goodWord (Cond.selects (zy t).cls (zy t) (zy t))))
    | 1 => (decide (lw_tbl[p0]? = some (Cond.methodLink (zRn c) ix (zy t))) && goodWord (Cond.methodLink (zRn c) ix (zy t))) && (decide (lw_tbl[p1]? = some (Cond.static (zy t))) && goodWord (Cond.static (zy t)))
    | 2 => (decide (lw_tbl[p0]? = some (Cond.methodLink (zRn c) ix (zy t))) && goodWord (Cond.methodLink (zRn c) ix (zy t))) && ((decide (lw_tbl[p1]? = some (Cond.instanceMethod (zy t))) && goodWord (Cond.instanceMethod (zy t))) && (decide ((zy t).name = "<init>") && decide (zRet t = none)))
    | 3 => decide (lw_tbl[p0]? = some (Cond.methodLinkNest (zRn c) ix (zy t) RX5)) && ((decide (lw_tbl[p1]? = some (Cond.instanceMethod (zy t))) && goodWord (Cond.instanceMethod (zy t))) && (decide (lw_tbl[p2]? = some (Cond.selects (zy t).cls (zy t) (zy t))) && goodWord (Cond.selects (zy t).cls (zy t) (zy t))))
    | 4 => decide (lw_tbl[p0]? = some (Cond.methodLinkNest (zRn c) ix (zy t) RX5)) && (decide (lw_tbl[p1]? = some (Cond.static (zy t))) && goodWord (Cond.static (zy t)))
    | 5 => decide (lw_tbl[p0]? = some (Cond.methodLinkNest (zRn c) ix (zy t) RX5)) && ((decide (lw_tbl[p1]? = some (Cond.instanceMethod (zy t))) && goodWord (Cond.instanceMethod (zy t))) && (decide ((zy t).name = "<init>") && decide (zRet t = none)))
    | _ => decide (lw_tbl[p0]? = some (Cond.methodLink (zRn c) ix Lib.objectInit)) && goodWord (Cond.methodLink (zRn c) ix Lib.objectInit)
set_option maxRecDepth 20000 in
theorem zCtab_ok : zCtab.all zCtabOk = true := by decide +kernel
/-- a field: class, entry, class of the object, place, of a nest mate, place of the word -/
def zFtab : List ((Nat × Nat) × (Nat × Nat × Bool) × Nat) := [((0, 14), (0, 0, false), 118), ((1, 14), (1, 0, false), 162), ((1, 20), (1, 1, false), 163), ((1, 23), (1, 2, false), 164), ((2, 13), (2, 0, false), 101), ((3, 12), (3, 0, false), 132), ((3, 23), (3, 1, false), 134), ((3, 27), (3, 2, false), 135), ((3, 30), (3, 3, false), 136), ((3, 34), (3, 4, false), 137), ((3, 37), (3, 5, false), 138), ((3, 40), (3, 6, false), 139), ((4, 9), (4, 0, false), 67), ((4, 15), (4, 1, false), 69), ((4, 18), (4, 2, false), 71), ((4, 21), (4, 3, false), 73), ((4, 24), (4, 4, false), 75), ((4, 27), (4, 5, false), 77), ((5, 11), (5, 0, false), 173), ((5, 18), (5, 1, false), 174), ((5, 22), (5, 2, false), 175), ((5, 30), (5, 3, false), 176), ((5, 37), (5, 4, false), 177), ((5, 44), (5, 5, false), 178), ((5, 48), (5, 6, false), 179), ((5, 78), (1, 2, true), 165), ((5, 124), (4, 0, true), 68), ((5, 148), (4, 4, true), 76), ((5, 151), (4, 5, true), 78), ((5, 154), (4, 2, true), 72), ((5, 157), (4, 3, true), 74), ((5, 160), (4, 1, true), 70), ((5, 180), (3, 0, true), 133), ((6, 7), (6, 0, false), 497), ((6, 13), (6, 1, false), 498), ((6, 16), (6, 2, false), 499), ((6, 19), (6, 3, false), 500), ((6, 22), (6, 4, false), 501), ((6, 25), (6, 5, false), 502), ((6, 28), (6, 6, false), 503)]
def zCl (ci : Nat) : vw_C := vwCl.getD ci ("", fun _ => ("", "", "", false), 0)
def zFtabOk (q : (Nat × Nat) × (Nat × Nat × Bool) × Nat) : Bool := match q with
  | ((c, ix), (ci, k, nest), p) => decide (ci < 7) && decide (k < (zCl ci).2.2) && (match nest with
    | false => decide (lw_tbl[p]? = some (Cond.fieldLink (zRn c) ix (zCl ci).1 ((zCl ci).2.1 k).2.1 ((zCl ci).2.1 k).2.2.1)) && goodWord (Cond.fieldLink (zRn c) ix (zCl ci).1 ((zCl ci).2.1 k).2.1 ((zCl ci).2.1 k).2.2.1)
    | true => decide (lw_tbl[p]? = some (Cond.fieldLinkNest (zRn c) ix (zCl ci).1 ((zCl ci).2.1 k).2.1 ((zCl ci).2.1 k).2.2.1 RX5)))
set_option maxRecDepth 20000 in
theorem zFtab_ok : zFtab.all zFtabOk = true := by decide +kernel
def zNtab : List ((Nat × Nat) × Nat × (Nat × Nat × Nat)) := [((0, 9), 2, (112, 93, 45)), ((1, 9), 2, (160, 93, 45)), ((3, 9), 4, (128, 62, 44)), ((3, 18), 2, (130, 93, 45)), ((5, 9), 1, (59, 155, 49)), ((5, 15), 4, (61, 62, 44)), ((5, 25), 2, (92, 93, 45)), ((5, 34), 0, (106, 107, 47)), ((5, 41), 3, (122, 123, 48)), ((8, 7), 5, (51, 52, 43)), ((8, 10), 6, (491, 492, 50))]
def zAtab : List ((Nat × Nat) × Nat) := [((5, 9), 59)]
def zNtabOk (q : (Nat × Nat) × Nat × (Nat × Nat × Nat)) : Bool := match q with
  | ((c, ix), ci, (p0, p1, p2)) => decide (ci < 7) && (decide (lw_tbl[p0]? = some (Cond.classLink (zRn c) ix (zCl ci).1)) && goodWord (Cond.classLink (zRn c) ix (zCl ci).1)) && ((decide (lw_tbl[p1]? = some (Cond.instantiable (zCl ci).1 (zCl ci).2.2)) && goodWord (Cond.instantiable (zCl ci).1 (zCl ci).2.2)) && (decide (lw_tbl[p2]? = some (Cond.initialized (zCl ci).1)) && goodWord (Cond.initialized (zCl ci).1)))
theorem zNtab_ok : zNtab.all zNtabOk = true := by decide +kernel
def zAtabOk (q : (Nat × Nat) × Nat) : Bool := decide (lw_tbl[q.2]? = some (Cond.classLink (zRn q.1.1) q.1.2 RX1)) && goodWord (Cond.classLink (zRn q.1.1) q.1.2 RX1)
theorem zAtab_ok : zAtab.all zAtabOk = true := by decide +kernel
def zKtab : List ((Nat × Nat) × Int32 × Nat) := [((3, 92), (-100000), 419), ((5, 120), (-100000), 317), ((6, 86), (-100000), 615), ((6, 90), (99999), 632), ((6, 98), (99998), 669)]
def zKtabOk (q : (Nat × Nat) × Int32 × Nat) : Bool := decide (lw_tbl[q.2.2]? = some (Cond.constant (zRn q.1.1) q.1.2 q.2.1)) && goodWord (Cond.constant (zRn q.1.1) q.1.2 q.2.1)
theorem zKtab_ok : zKtab.all zKtabOk = true := by decide +kernel
/-- the words on nest mates, which a contract carries with it -/
def zNwords : List Cond := lw_tbl.filter (fun w => !goodWord w)
theorem zT_arr : Cond.arrayClass .int ∈ zT := zT_of (i := 105) (by decide +kernel)
theorem zT_over : Cond.arrayOver (.object RX1) ∈ lw_tbl := List.mem_of_getElem? (i := 60) (by decide +kernel)
theorem zT_obj : Cond.instanceMethod Lib.objectInit ∈ zT ∧ Cond.code Lib.objectInit ⟨#[0xb1]⟩ 1 none ∈ zT := ⟨zT_of (i := 57) (by decide +kernel), zT_of (i := 58) (by decide +kernel)⟩
theorem zW0 : ∀ w ∈ u_ws (zCl 0).1 (zCl 0).2.1 (zCl 0).2.2, w ∈ zT := by
  have h : (u_ws (zCl 0).1 (zCl 0).2.1 (zCl 0).2.2).all (fun w => decide (w ∈ zT)) = true := by decide +kernel
  intro w hw
  exact of_decide_eq_true (List.all_eq_true.mp h w hw)
theorem zW1 : ∀ w ∈ u_ws (zCl 1).1 (zCl 1).2.1 (zCl 1).2.2, w ∈ zT := by
  have h : (u_ws (zCl 1).1 (zCl 1).2.1 (zCl 1).2.2).all (fun w => decide (w ∈ zT)) = true := by decide +kernel
  intro w hw
  exact of_decide_eq_true (List.all_eq_true.mp h w hw)
theorem zW2 : ∀ w ∈ u_ws (zCl 2).1 (zCl 2).2.1 (zCl 2).2.2, w ∈ zT := by
  have h : (u_ws (zCl 2).1 (zCl 2).2.1 (zCl 2).2.2).all (fun w => decide (w ∈ zT)) = true := by decide +kernel
  intro w hw
  exact of_decide_eq_true (List.all_eq_true.mp h w hw)
theorem zW3 : ∀ w ∈ u_ws (zCl 3).1 (zCl 3).2.1 (zCl 3).2.2, w ∈ zT := by
  have h : (u_ws (zCl 3).1 (zCl 3).2.1 (zCl 3).2.2).all (fun w => decide (w ∈ zT)) = true := by decide +kernel
  intro w hw
  exact of_decide_eq_true (List.all_eq_true.mp h w hw)
theorem zW4 : ∀ w ∈ u_ws (zCl 4).1 (zCl 4).2.1 (zCl 4).2.2, w ∈ zT := by
  have h : (u_ws (zCl 4).1 (zCl 4).2.1 (zCl 4).2.2).all (fun w => decide (w ∈ zT)) = true := by decide +kernel
  intro w hw
  exact of_decide_eq_true (List.all_eq_true.mp h w hw)
theorem zW5 : ∀ w ∈ u_ws (zCl 5).1 (zCl 5).2.1 (zCl 5).2.2, w ∈ zT := by
  have h : (u_ws (zCl 5).1 (zCl 5).2.1 (zCl 5).2.2).all (fun w => decide (w ∈ zT)) = true := by decide +kernel
  intro w hw
  exact of_decide_eq_true (List.all_eq_true.mp h w hw)
theorem zW6 : ∀ w ∈ u_ws (zCl 6).1 (zCl 6).2.1 (zCl 6).2.2, w ∈ zT := by
  have h : (u_ws (zCl 6).1 (zCl 6).2.1 (zCl 6).2.2).all (fun w => decide (w ∈ zT)) = true := by decide +kernel
  intro w hw
  exact of_decide_eq_true (List.all_eq_true.mp h w hw)
theorem zWk : ∀ ci, ci < 7 → ∀ w ∈ u_ws (zCl ci).1 (zCl ci).2.1 (zCl ci).2.2, w ∈ zT := by
  intro ci h
  match ci, h with
  | 0, _ => exact zW0
  | 1, _ => exact zW1
  | 2, _ => exact zW2
  | 3, _ => exact zW3
  | 4, _ => exact zW4
  | 5, _ => exact zW5
  | 6, _ => exact zW6
  | k + 7, h => exact absurd h (by omega)
def zty (ci : Nat) : Nat → FieldType := match ci with
  | 0 => tyX0
  | 1 => tyX1
  | 2 => tyX2
  | 3 => tyX3
  | 4 => tyX4
  | 5 => tyX5
  | _ => tyX6
theorem zTyk : ∀ ci, ci < 7 → (∀ k, k < (zCl ci).2.2 → parseFieldDescriptor ((zCl ci).2.1 k).2.2.1 = some (zty ci k)) ∧ (∀ a, a < (zCl ci).2.2 → ∀ b, b < (zCl ci).2.2 → a ≠ b → ((zCl ci).2.1 a).2.1 ≠ ((zCl ci).2.1 b).2.1) ∧ vwCl[ci]? = some ((zCl ci).1, (zCl ci).2.1, (zCl ci).2.2) := by
  intro ci h
  match ci, h with
  | 0, _ => exact ⟨tyX0_ok, nmX0, rfl⟩
  | 1, _ => exact ⟨tyX1_ok, nmX1, rfl⟩
  | 2, _ => exact ⟨tyX2_ok, nmX2, rfl⟩
  | 3, _ => exact ⟨tyX3_ok, nmX3, rfl⟩
  | 4, _ => exact ⟨tyX4_ok, nmX4, rfl⟩
  | 5, _ => exact ⟨tyX5_ok, nmX5, rfl⟩
  | 6, _ => exact ⟨tyX6_ok, nmX6, rfl⟩
  | k + 7, h => exact absurd h (by omega)
