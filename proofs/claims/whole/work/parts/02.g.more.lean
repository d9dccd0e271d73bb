theorem wl_X6_3 : Cond.methodLink RX6 3 objectInit ∈ xWS := xws tw_87 rfl
theorem wl_X4_3 : Cond.methodLink RX4 3 objectInit ∈ xWS := xws tw_95 rfl
theorem wk_X4_9 : Cond.fieldLink RX4 9 "ShiftedShapes$Script" "letters" "[I" ∈ xWS := xws tw_96 rfl
theorem wl_X2_3 : Cond.methodLink RX2 3 objectInit ∈ xWS := xws tw_113 rfl
theorem wk_X2_9 : Cond.fieldLink RX2 9 "ShiftedShapes$Piece" "codes" "[I" ∈ xWS := xws tw_114 rfl
theorem wl_X3_1 : Cond.methodLink RX3 1 objectInit ∈ xWS := xws tw_135 rfl
theorem wl_X3_7 : Cond.methodLink RX3 7 Lib.Math.max.name ∈ xWS := xws tw_136 rfl
theorem wk_X3_15 : Cond.fieldLink RX3 15 "ShiftedShapes$Pile" "pieces" "[LShiftedShapes$Piece;" ∈ xWS := xws tw_142 rfl
theorem wl_X5_3 : Cond.methodLink RX5 3 objectInit ∈ xWS := xws tw_155 rfl
theorem wk_X5_9 : Cond.fieldLink RX5 9 "ShiftedShapes$Search" "times" "[I" ∈ xWS := xws tw_156 rfl
theorem wk_X5_15 : Cond.fieldLink RX5 15 "ShiftedShapes$Search" "pitches" "[I" ∈ xWS := xws tw_157 rfl
theorem wk_X5_18 : Cond.fieldLink RX5 18 "ShiftedShapes$Search" "numbers" "[I" ∈ xWS := xws tw_158 rfl
theorem wk_X5_21 : Cond.fieldLink RX5 21 "ShiftedShapes$Search" "largests" "[I" ∈ xWS := xws tw_159 rfl
theorem wk_X5_24 : Cond.fieldLink RX5 24 "ShiftedShapes$Search" "wideShifts" "[I" ∈ xWS := xws tw_160 rfl
theorem wk_X5_27 : Cond.fieldLink RX5 27 "ShiftedShapes$Search" "shapeSets" "[I" ∈ xWS := xws tw_164 rfl
theorem wk_X5_30 : Cond.fieldLink RX5 30 "ShiftedShapes$Search" "shapePlaces" "[I" ∈ xWS := xws tw_167 rfl
theorem wk_X5_33 : Cond.fieldLink RX5 33 "ShiftedShapes$Search" "shapeCovers" "[I" ∈ xWS := xws tw_170 rfl
theorem wl_X1_3 : Cond.methodLink RX1 3 objectInit ∈ xWS := xws tw_208 rfl
theorem wk_X1_9 : Cond.fieldLink RX1 9 "ShiftedShapes$Parting" "sets" "[I" ∈ xWS := xws tw_209 rfl
theorem wk_X1_15 : Cond.fieldLink RX1 15 "ShiftedShapes$Parting" "places" "[I" ∈ xWS := xws tw_211 rfl
theorem wk_X1_18 : Cond.fieldLink RX1 18 "ShiftedShapes$Parting" "covers" "[I" ∈ xWS := xws tw_213 rfl
theorem wl_X0_3 : Cond.methodLink RX0 3 objectInit ∈ xWS := xws tw_239 rfl
theorem wk_X0_9 : Cond.fieldLink RX0 9 "ShiftedShapes$Covering" "covers" "[I" ∈ xWS := xws tw_240 rfl
theorem wk_X6_12 : Cond.fieldLink RX6 12 "ShiftedShapes" "script" "LShiftedShapes$Script;" ∈ xWS := xws tw_258 rfl
theorem wk_X6_19 : Cond.fieldLink RX6 19 "ShiftedShapes" "piece" "LShiftedShapes$Piece;" ∈ xWS := xws tw_259 rfl
theorem wk_X6_23 : Cond.fieldLink RX6 23 "ShiftedShapes" "trial" "LShiftedShapes$Piece;" ∈ xWS := xws tw_260 rfl
theorem wk_X6_31 : Cond.fieldLink RX6 31 "ShiftedShapes" "undoable" "LShiftedShapes$Pile;" ∈ xWS := xws tw_261 rfl
theorem wk_X6_35 : Cond.fieldLink RX6 35 "ShiftedShapes" "kept" "LShiftedShapes$Pile;" ∈ xWS := xws tw_262 rfl
theorem wk_X6_41 : Cond.fieldLink RX6 41 "ShiftedShapes" "whole" "LShiftedShapes$Search;" ∈ xWS := xws tw_263 rfl
theorem wk_X6_45 : Cond.fieldLink RX6 45 "ShiftedShapes" "scratch" "LShiftedShapes$Search;" ∈ xWS := xws tw_264 rfl
theorem wk_X6_51 : Cond.fieldLink RX6 51 "ShiftedShapes" "parts" "LShiftedShapes$Parting;" ∈ xWS := xws tw_265 rfl
theorem wk_X6_58 : Cond.fieldLink RX6 58 "ShiftedShapes" "covering" "LShiftedShapes$Covering;" ∈ xWS := xws tw_266 rfl
theorem wl_X4_67 : Cond.methodLink RX4 67 Lib.Math.max.name ∈ xWS := xws tw_338 rfl
theorem wl_X2_19 : Cond.methodLink RX2 19 arraycopyName ∈ xWS := xws tw_360 rfl
theorem wl_X7_1 : Cond.methodLink RX7 1 objectInit ∈ xWS := xws tw_660 rfl
theorem wk_X7_7 : Cond.fieldLink RX7 7 "ShiftedShapesModel" "now" "[I" ∈ xWS := xws tw_671 rfl
theorem wk_X7_13 : Cond.fieldLink RX7 13 "ShiftedShapesModel" "read" "[I" ∈ xWS := xws tw_672 rfl
theorem wk_X7_16 : Cond.fieldLink RX7 16 "ShiftedShapesModel" "aside" "[I" ∈ xWS := xws tw_673 rfl
theorem wk_X7_19 : Cond.fieldLink RX7 19 "ShiftedShapesModel" "past" "[I" ∈ xWS := xws tw_674 rfl
theorem wk_X7_22 : Cond.fieldLink RX7 22 "ShiftedShapesModel" "kept" "[I" ∈ xWS := xws tw_676 rfl
theorem wk_X7_25 : Cond.fieldLink RX7 25 "ShiftedShapesModel" "text" "[I" ∈ xWS := xws tw_678 rfl
theorem wk_X7_28 : Cond.fieldLink RX7 28 "ShiftedShapesModel" "at" "[I" ∈ xWS := xws tw_681 rfl
theorem wk_X7_31 : Cond.fieldLink RX7 31 "ShiftedShapesModel" "largest" "[I" ∈ xWS := xws tw_682 rfl
theorem wk_X7_34 : Cond.fieldLink RX7 34 "ShiftedShapesModel" "shape" "[I" ∈ xWS := xws tw_687 rfl
theorem wk_X7_37 : Cond.fieldLink RX7 37 "ShiftedShapesModel" "part" "[I" ∈ xWS := xws tw_693 rfl
theorem wk_X7_40 : Cond.fieldLink RX7 40 "ShiftedShapesModel" "few" "[I" ∈ xWS := xws tw_696 rfl
theorem wk_X7_43 : Cond.fieldLink RX7 43 "ShiftedShapesModel" "covers" "[I" ∈ xWS := xws tw_697 rfl
theorem up_s {α : Type} {f : Nat → α} {k : Nat} {v : α} : va_up f k v k = v := by simp [va_up]
theorem up_n {α : Type} {f : Nat → α} {k j : Nat} {v : α} (h : j ≠ k) : va_up f k v j = f j := by simp [va_up, h]
section RULES
variable {X : xC} {Post : xP} {k j n : Nat} {w : xW} {pc : Nat} {L : List (Option xV)} {st : List xV}
theorem ex_up {r : Nat} {e : xE} (kk : ∀ w2, w2 = va_up w r e → Ex X Post k j n w2 pc L st) : Ex X Post k j n (va_up w r e) pc L st := kk _ rfl
theorem ex_top {i : Int} (kk : ∀ x, x = i → Ex X Post k j n w pc L (xi x :: st)) : Ex X Post k j n w pc L (xi i :: st) := kk _ rfl
theorem ex_eq {i x : Int} (h : i = x) (kk : Ex X Post k j n w pc L (xi x :: st)) : Ex X Post k j n w pc L (xi i :: st) := h ▸ kk
theorem ex_obj {idx r : Nat} (hd : decode X.1 pc = .ok (.invokespecial idx, 3)) (hl : Cond.methodLink X.2.1 idx objectInit ∈ xWS) (hfr : 1 ≤ X.2.2.1) (hlo : (st.map xcat).sum + 12 ≤ X.2.2.2.1) (kk : Ex X Post k j n w (pc + 3) L st) : Ex X Post k j n w pc L (xr r :: st) := by
  intro p l e R s m args below meth c H locs Q B D ls hC hR hk hS hL hst
  have hcs : ((st.map (rv B)).map fun v => v.category).sum = (st.map xcat).sum := cat_sum B st
  refine W.objInit hC.1 hC.2.1 hC.2.2.1 (hC.2.2.2.1 _ hl) (hC.2.2.2.1 _ w_oin) (hC.2.2.2.1 _ w_oco) rfl hL.1 rfl hd (by have := hC.2.2.2.2.2.2.2.1.1; omega) (by show 2 * 0 + _ + 12 ≤ _; rw [hcs]; have := hC.2.2.2.2.2.2.2.1.2.1; omega) ?_
  exact kk p l e R s m args below meth c H locs Q B D ls hC hR hk hS hL (hst2 hst)
end RULES
