theorem tw_242 : lw_tbl[242]? = some (Cond.laysFinal "ShiftedShapes$Covering" "ShiftedShapes$Covering" "covers" "[I") := by decide +kernel
theorem tw_244 : lw_tbl[244]? = some (Cond.lays "ShiftedShapes$Covering" "ShiftedShapes$Covering" "size" "I") := by decide +kernel
theorem tw_221 : lw_tbl[221]? = some (Cond.laysFinal "ShiftedShapes$Parting" "ShiftedShapes$Parting" "sets" "[I") := by decide +kernel
theorem tw_223 : lw_tbl[223]? = some (Cond.laysFinal "ShiftedShapes$Parting" "ShiftedShapes$Parting" "places" "[I") := by decide +kernel
theorem tw_225 : lw_tbl[225]? = some (Cond.laysFinal "ShiftedShapes$Parting" "ShiftedShapes$Parting" "covers" "[I") := by decide +kernel
theorem tw_227 : lw_tbl[227]? = some (Cond.lays "ShiftedShapes$Parting" "ShiftedShapes$Parting" "size" "I") := by decide +kernel
theorem tw_229 : lw_tbl[229]? = some (Cond.lays "ShiftedShapes$Parting" "ShiftedShapes$Parting" "rest" "I") := by decide +kernel
theorem tw_231 : lw_tbl[231]? = some (Cond.lays "ShiftedShapes$Parting" "ShiftedShapes$Parting" "price" "I") := by decide +kernel
theorem tw_123 : lw_tbl[123]? = some (Cond.laysFinal "ShiftedShapes$Piece" "ShiftedShapes$Piece" "codes" "[I") := by decide +kernel
theorem tw_125 : lw_tbl[125]? = some (Cond.lays "ShiftedShapes$Piece" "ShiftedShapes$Piece" "size" "I") := by decide +kernel
theorem tw_127 : lw_tbl[127]? = some (Cond.lays "ShiftedShapes$Piece" "ShiftedShapes$Piece" "manner" "I") := by decide +kernel
theorem tw_145 : lw_tbl[145]? = some (Cond.laysFinal "ShiftedShapes$Pile" "ShiftedShapes$Pile" "pieces" "[LShiftedShapes$Piece;") := by decide +kernel
theorem tw_147 : lw_tbl[147]? = some (Cond.lays "ShiftedShapes$Pile" "ShiftedShapes$Pile" "size" "I") := by decide +kernel
theorem tw_100 : lw_tbl[100]? = some (Cond.laysFinal "ShiftedShapes$Script" "ShiftedShapes$Script" "letters" "[I") := by decide +kernel
theorem tw_102 : lw_tbl[102]? = some (Cond.lays "ShiftedShapes$Script" "ShiftedShapes$Script" "length" "I") := by decide +kernel
theorem tw_104 : lw_tbl[104]? = some (Cond.lays "ShiftedShapes$Script" "ShiftedShapes$Script" "at" "I") := by decide +kernel
theorem tw_178 : lw_tbl[178]? = some (Cond.laysFinal "ShiftedShapes$Search" "ShiftedShapes$Search" "times" "[I") := by decide +kernel
theorem tw_180 : lw_tbl[180]? = some (Cond.laysFinal "ShiftedShapes$Search" "ShiftedShapes$Search" "pitches" "[I") := by decide +kernel
theorem tw_182 : lw_tbl[182]? = some (Cond.laysFinal "ShiftedShapes$Search" "ShiftedShapes$Search" "numbers" "[I") := by decide +kernel
theorem tw_184 : lw_tbl[184]? = some (Cond.laysFinal "ShiftedShapes$Search" "ShiftedShapes$Search" "largests" "[I") := by decide +kernel
theorem tw_186 : lw_tbl[186]? = some (Cond.laysFinal "ShiftedShapes$Search" "ShiftedShapes$Search" "wideShifts" "[I") := by decide +kernel
theorem tw_188 : lw_tbl[188]? = some (Cond.lays "ShiftedShapes$Search" "ShiftedShapes$Search" "wideCount" "I") := by decide +kernel
theorem tw_190 : lw_tbl[190]? = some (Cond.lays "ShiftedShapes$Search" "ShiftedShapes$Search" "manner" "I") := by decide +kernel
theorem tw_192 : lw_tbl[192]? = some (Cond.lays "ShiftedShapes$Search" "ShiftedShapes$Search" "present" "I") := by decide +kernel
theorem tw_194 : lw_tbl[194]? = some (Cond.laysFinal "ShiftedShapes$Search" "ShiftedShapes$Search" "shapeSets" "[I") := by decide +kernel
theorem tw_196 : lw_tbl[196]? = some (Cond.laysFinal "ShiftedShapes$Search" "ShiftedShapes$Search" "shapePlaces" "[I") := by decide +kernel
theorem tw_198 : lw_tbl[198]? = some (Cond.laysFinal "ShiftedShapes$Search" "ShiftedShapes$Search" "shapeCovers" "[I") := by decide +kernel
theorem tw_200 : lw_tbl[200]? = some (Cond.lays "ShiftedShapes$Search" "ShiftedShapes$Search" "shapeCount" "I") := by decide +kernel
theorem tw_271 : lw_tbl[271]? = some (Cond.laysFinal "ShiftedShapes" "ShiftedShapes" "script" "LShiftedShapes$Script;") := by decide +kernel
theorem tw_273 : lw_tbl[273]? = some (Cond.laysFinal "ShiftedShapes" "ShiftedShapes" "piece" "LShiftedShapes$Piece;") := by decide +kernel
theorem tw_275 : lw_tbl[275]? = some (Cond.laysFinal "ShiftedShapes" "ShiftedShapes" "trial" "LShiftedShapes$Piece;") := by decide +kernel
theorem tw_277 : lw_tbl[277]? = some (Cond.laysFinal "ShiftedShapes" "ShiftedShapes" "undoable" "LShiftedShapes$Pile;") := by decide +kernel
theorem tw_279 : lw_tbl[279]? = some (Cond.laysFinal "ShiftedShapes" "ShiftedShapes" "kept" "LShiftedShapes$Pile;") := by decide +kernel
theorem tw_281 : lw_tbl[281]? = some (Cond.laysFinal "ShiftedShapes" "ShiftedShapes" "whole" "LShiftedShapes$Search;") := by decide +kernel
theorem tw_283 : lw_tbl[283]? = some (Cond.laysFinal "ShiftedShapes" "ShiftedShapes" "scratch" "LShiftedShapes$Search;") := by decide +kernel
theorem tw_285 : lw_tbl[285]? = some (Cond.laysFinal "ShiftedShapes" "ShiftedShapes" "parts" "LShiftedShapes$Parting;") := by decide +kernel
theorem tw_287 : lw_tbl[287]? = some (Cond.laysFinal "ShiftedShapes" "ShiftedShapes" "covering" "LShiftedShapes$Covering;") := by decide +kernel
theorem tw_289 : lw_tbl[289]? = some (Cond.lays "ShiftedShapes" "ShiftedShapes" "wholeKnown" "Z") := by decide +kernel
theorem tw_291 : lw_tbl[291]? = some (Cond.lays "ShiftedShapes" "ShiftedShapes" "betterKnown" "Z") := by decide +kernel
theorem tw_293 : lw_tbl[293]? = some (Cond.lays "ShiftedShapes" "ShiftedShapes" "betterCode" "I") := by decide +kernel
theorem tw_295 : lw_tbl[295]? = some (Cond.lays "ShiftedShapes" "ShiftedShapes" "betterGain" "I") := by decide +kernel
theorem tw_698 : lw_tbl[698]? = some (Cond.laysFinal "ShiftedShapesModel" "ShiftedShapesModel" "now" "[I") := by decide +kernel
theorem tw_700 : lw_tbl[700]? = some (Cond.laysFinal "ShiftedShapesModel" "ShiftedShapesModel" "read" "[I") := by decide +kernel
theorem tw_702 : lw_tbl[702]? = some (Cond.laysFinal "ShiftedShapesModel" "ShiftedShapesModel" "aside" "[I") := by decide +kernel
theorem tw_704 : lw_tbl[704]? = some (Cond.laysFinal "ShiftedShapesModel" "ShiftedShapesModel" "past" "[I") := by decide +kernel
theorem tw_706 : lw_tbl[706]? = some (Cond.lays "ShiftedShapesModel" "ShiftedShapesModel" "undos" "I") := by decide +kernel
theorem tw_708 : lw_tbl[708]? = some (Cond.laysFinal "ShiftedShapesModel" "ShiftedShapesModel" "kept" "[I") := by decide +kernel
theorem tw_710 : lw_tbl[710]? = some (Cond.lays "ShiftedShapesModel" "ShiftedShapesModel" "keeps" "I") := by decide +kernel
theorem tw_712 : lw_tbl[712]? = some (Cond.laysFinal "ShiftedShapesModel" "ShiftedShapesModel" "text" "[I") := by decide +kernel
theorem tw_714 : lw_tbl[714]? = some (Cond.lays "ShiftedShapesModel" "ShiftedShapesModel" "length" "I") := by decide +kernel
theorem tw_716 : lw_tbl[716]? = some (Cond.lays "ShiftedShapesModel" "ShiftedShapesModel" "place" "I") := by decide +kernel
theorem tw_718 : lw_tbl[718]? = some (Cond.laysFinal "ShiftedShapesModel" "ShiftedShapesModel" "at" "[I") := by decide +kernel
theorem tw_720 : lw_tbl[720]? = some (Cond.laysFinal "ShiftedShapesModel" "ShiftedShapesModel" "largest" "[I") := by decide +kernel
theorem tw_722 : lw_tbl[722]? = some (Cond.lays "ShiftedShapesModel" "ShiftedShapesModel" "modeNow" "I") := by decide +kernel
theorem tw_724 : lw_tbl[724]? = some (Cond.lays "ShiftedShapesModel" "ShiftedShapesModel" "places" "I") := by decide +kernel
theorem tw_726 : lw_tbl[726]? = some (Cond.lays "ShiftedShapesModel" "ShiftedShapesModel" "cover" "I") := by decide +kernel
theorem tw_728 : lw_tbl[728]? = some (Cond.lays "ShiftedShapesModel" "ShiftedShapesModel" "shapes" "I") := by decide +kernel
theorem tw_730 : lw_tbl[730]? = some (Cond.laysFinal "ShiftedShapesModel" "ShiftedShapesModel" "shape" "[I") := by decide +kernel
theorem tw_732 : lw_tbl[732]? = some (Cond.lays "ShiftedShapesModel" "ShiftedShapesModel" "best" "I") := by decide +kernel
theorem tw_734 : lw_tbl[734]? = some (Cond.lays "ShiftedShapesModel" "ShiftedShapesModel" "bestGain" "I") := by decide +kernel
theorem tw_736 : lw_tbl[736]? = some (Cond.lays "ShiftedShapesModel" "ShiftedShapesModel" "bestCover" "I") := by decide +kernel
theorem tw_738 : lw_tbl[738]? = some (Cond.lays "ShiftedShapesModel" "ShiftedShapesModel" "bestPlaces" "I") := by decide +kernel
theorem tw_740 : lw_tbl[740]? = some (Cond.lays "ShiftedShapesModel" "ShiftedShapesModel" "parts" "I") := by decide +kernel
theorem tw_742 : lw_tbl[742]? = some (Cond.laysFinal "ShiftedShapesModel" "ShiftedShapesModel" "part" "[I") := by decide +kernel
theorem tw_744 : lw_tbl[744]? = some (Cond.lays "ShiftedShapesModel" "ShiftedShapesModel" "rest" "I") := by decide +kernel
theorem tw_746 : lw_tbl[746]? = some (Cond.lays "ShiftedShapesModel" "ShiftedShapesModel" "price" "I") := by decide +kernel
theorem tw_748 : lw_tbl[748]? = some (Cond.laysFinal "ShiftedShapesModel" "ShiftedShapesModel" "few" "[I") := by decide +kernel
theorem tw_750 : lw_tbl[750]? = some (Cond.laysFinal "ShiftedShapesModel" "ShiftedShapesModel" "covers" "[I") := by decide +kernel
theorem tw_96 : lw_tbl[96]? = some (Cond.fieldLink "ShiftedShapes$Script" 9 "ShiftedShapes$Script" "letters" "[I") := by decide +kernel
theorem tw_97 : lw_tbl[97]? = some (Cond.fieldLink "ShiftedShapes$Script" 15 "ShiftedShapes$Script" "length" "I") := by decide +kernel
theorem tw_98 : lw_tbl[98]? = some (Cond.fieldLinkNest "ShiftedShapes" 81 "ShiftedShapes$Script" "length" "I" "ShiftedShapes") := by decide +kernel
theorem tw_99 : lw_tbl[99]? = some (Cond.fieldLink "ShiftedShapes$Script" 27 "ShiftedShapes$Script" "at" "I") := by decide +kernel
theorem tw_114 : lw_tbl[114]? = some (Cond.fieldLink "ShiftedShapes$Piece" 9 "ShiftedShapes$Piece" "codes" "[I") := by decide +kernel
theorem tw_115 : lw_tbl[115]? = some (Cond.fieldLink "ShiftedShapes$Piece" 15 "ShiftedShapes$Piece" "size" "I") := by decide +kernel
theorem tw_116 : lw_tbl[116]? = some (Cond.fieldLinkNest "ShiftedShapes$Search" 56 "ShiftedShapes$Piece" "size" "I" "ShiftedShapes") := by decide +kernel
theorem tw_117 : lw_tbl[117]? = some (Cond.fieldLinkNest "ShiftedShapes$Script" 19 "ShiftedShapes$Piece" "size" "I" "ShiftedShapes") := by decide +kernel
theorem tw_118 : lw_tbl[118]? = some (Cond.fieldLinkNest "ShiftedShapes" 89 "ShiftedShapes$Piece" "size" "I" "ShiftedShapes") := by decide +kernel
theorem tw_119 : lw_tbl[119]? = some (Cond.fieldLinkNest "ShiftedShapes$Search" 36 "ShiftedShapes$Piece" "manner" "I" "ShiftedShapes") := by decide +kernel
theorem tw_120 : lw_tbl[120]? = some (Cond.fieldLinkNest "ShiftedShapes$Script" 24 "ShiftedShapes$Piece" "manner" "I" "ShiftedShapes") := by decide +kernel
theorem tw_121 : lw_tbl[121]? = some (Cond.fieldLink "ShiftedShapes$Piece" 25 "ShiftedShapes$Piece" "manner" "I") := by decide +kernel
theorem tw_122 : lw_tbl[122]? = some (Cond.fieldLinkNest "ShiftedShapes" 132 "ShiftedShapes$Piece" "manner" "I" "ShiftedShapes") := by decide +kernel
theorem tw_142 : lw_tbl[142]? = some (Cond.fieldLink "ShiftedShapes$Pile" 15 "ShiftedShapes$Pile" "pieces" "[LShiftedShapes$Piece;") := by decide +kernel
theorem tw_143 : lw_tbl[143]? = some (Cond.fieldLink "ShiftedShapes$Pile" 22 "ShiftedShapes$Pile" "size" "I") := by decide +kernel
theorem tw_144 : lw_tbl[144]? = some (Cond.fieldLinkNest "ShiftedShapes" 96 "ShiftedShapes$Pile" "size" "I" "ShiftedShapes") := by decide +kernel
theorem tw_156 : lw_tbl[156]? = some (Cond.fieldLink "ShiftedShapes$Search" 9 "ShiftedShapes$Search" "times" "[I") := by decide +kernel
theorem tw_157 : lw_tbl[157]? = some (Cond.fieldLink "ShiftedShapes$Search" 15 "ShiftedShapes$Search" "pitches" "[I") := by decide +kernel
theorem tw_158 : lw_tbl[158]? = some (Cond.fieldLink "ShiftedShapes$Search" 18 "ShiftedShapes$Search" "numbers" "[I") := by decide +kernel
theorem tw_159 : lw_tbl[159]? = some (Cond.fieldLink "ShiftedShapes$Search" 21 "ShiftedShapes$Search" "largests" "[I") := by decide +kernel
theorem tw_160 : lw_tbl[160]? = some (Cond.fieldLink "ShiftedShapes$Search" 24 "ShiftedShapes$Search" "wideShifts" "[I") := by decide +kernel
theorem tw_161 : lw_tbl[161]? = some (Cond.fieldLink "ShiftedShapes$Search" 102 "ShiftedShapes$Search" "wideCount" "I") := by decide +kernel
theorem tw_162 : lw_tbl[162]? = some (Cond.fieldLink "ShiftedShapes$Search" 42 "ShiftedShapes$Search" "manner" "I") := by decide +kernel
theorem tw_163 : lw_tbl[163]? = some (Cond.fieldLink "ShiftedShapes$Search" 47 "ShiftedShapes$Search" "present" "I") := by decide +kernel
theorem tw_164 : lw_tbl[164]? = some (Cond.fieldLink "ShiftedShapes$Search" 27 "ShiftedShapes$Search" "shapeSets" "[I") := by decide +kernel
theorem tw_165 : lw_tbl[165]? = some (Cond.fieldLinkNest "ShiftedShapes$Parting" 62 "ShiftedShapes$Search" "shapeSets" "[I" "ShiftedShapes") := by decide +kernel
theorem tw_166 : lw_tbl[166]? = some (Cond.fieldLinkNest "ShiftedShapes" 155 "ShiftedShapes$Search" "shapeSets" "[I" "ShiftedShapes") := by decide +kernel
theorem tw_167 : lw_tbl[167]? = some (Cond.fieldLink "ShiftedShapes$Search" 30 "ShiftedShapes$Search" "shapePlaces" "[I") := by decide +kernel
theorem tw_168 : lw_tbl[168]? = some (Cond.fieldLinkNest "ShiftedShapes$Parting" 65 "ShiftedShapes$Search" "shapePlaces" "[I" "ShiftedShapes") := by decide +kernel
theorem tw_169 : lw_tbl[169]? = some (Cond.fieldLinkNest "ShiftedShapes" 158 "ShiftedShapes$Search" "shapePlaces" "[I" "ShiftedShapes") := by decide +kernel
theorem tw_170 : lw_tbl[170]? = some (Cond.fieldLink "ShiftedShapes$Search" 33 "ShiftedShapes$Search" "shapeCovers" "[I") := by decide +kernel
theorem tw_171 : lw_tbl[171]? = some (Cond.fieldLinkNest "ShiftedShapes$Covering" 40 "ShiftedShapes$Search" "shapeCovers" "[I" "ShiftedShapes") := by decide +kernel
theorem tw_172 : lw_tbl[172]? = some (Cond.fieldLinkNest "ShiftedShapes$Parting" 68 "ShiftedShapes$Search" "shapeCovers" "[I" "ShiftedShapes") := by decide +kernel
theorem tw_173 : lw_tbl[173]? = some (Cond.fieldLinkNest "ShiftedShapes" 161 "ShiftedShapes$Search" "shapeCovers" "[I" "ShiftedShapes") := by decide +kernel
theorem tw_174 : lw_tbl[174]? = some (Cond.fieldLinkNest "ShiftedShapes$Covering" 33 "ShiftedShapes$Search" "shapeCount" "I" "ShiftedShapes") := by decide +kernel
theorem tw_175 : lw_tbl[175]? = some (Cond.fieldLinkNest "ShiftedShapes$Parting" 59 "ShiftedShapes$Search" "shapeCount" "I" "ShiftedShapes") := by decide +kernel
theorem tw_176 : lw_tbl[176]? = some (Cond.fieldLink "ShiftedShapes$Search" 109 "ShiftedShapes$Search" "shapeCount" "I") := by decide +kernel
theorem tw_177 : lw_tbl[177]? = some (Cond.fieldLinkNest "ShiftedShapes" 152 "ShiftedShapes$Search" "shapeCount" "I" "ShiftedShapes") := by decide +kernel
theorem tw_209 : lw_tbl[209]? = some (Cond.fieldLink "ShiftedShapes$Parting" 9 "ShiftedShapes$Parting" "sets" "[I") := by decide +kernel
theorem tw_210 : lw_tbl[210]? = some (Cond.fieldLinkNest "ShiftedShapes" 185 "ShiftedShapes$Parting" "sets" "[I" "ShiftedShapes") := by decide +kernel
theorem tw_211 : lw_tbl[211]? = some (Cond.fieldLink "ShiftedShapes$Parting" 15 "ShiftedShapes$Parting" "places" "[I") := by decide +kernel
theorem tw_212 : lw_tbl[212]? = some (Cond.fieldLinkNest "ShiftedShapes" 188 "ShiftedShapes$Parting" "places" "[I" "ShiftedShapes") := by decide +kernel
theorem tw_213 : lw_tbl[213]? = some (Cond.fieldLink "ShiftedShapes$Parting" 18 "ShiftedShapes$Parting" "covers" "[I") := by decide +kernel
theorem tw_214 : lw_tbl[214]? = some (Cond.fieldLinkNest "ShiftedShapes" 191 "ShiftedShapes$Parting" "covers" "[I" "ShiftedShapes") := by decide +kernel
theorem tw_215 : lw_tbl[215]? = some (Cond.fieldLink "ShiftedShapes$Parting" 21 "ShiftedShapes$Parting" "size" "I") := by decide +kernel
theorem tw_216 : lw_tbl[216]? = some (Cond.fieldLinkNest "ShiftedShapes" 184 "ShiftedShapes$Parting" "size" "I" "ShiftedShapes") := by decide +kernel
theorem tw_217 : lw_tbl[217]? = some (Cond.fieldLink "ShiftedShapes$Parting" 34 "ShiftedShapes$Parting" "rest" "I") := by decide +kernel
theorem tw_218 : lw_tbl[218]? = some (Cond.fieldLinkNest "ShiftedShapes" 194 "ShiftedShapes$Parting" "rest" "I" "ShiftedShapes") := by decide +kernel
theorem tw_219 : lw_tbl[219]? = some (Cond.fieldLink "ShiftedShapes$Parting" 25 "ShiftedShapes$Parting" "price" "I") := by decide +kernel
theorem tw_220 : lw_tbl[220]? = some (Cond.fieldLinkNest "ShiftedShapes" 197 "ShiftedShapes$Parting" "price" "I" "ShiftedShapes") := by decide +kernel
theorem tw_240 : lw_tbl[240]? = some (Cond.fieldLink "ShiftedShapes$Covering" 9 "ShiftedShapes$Covering" "covers" "[I") := by decide +kernel
theorem tw_241 : lw_tbl[241]? = some (Cond.fieldLink "ShiftedShapes$Covering" 25 "ShiftedShapes$Covering" "size" "I") := by decide +kernel
theorem tw_247 : lw_tbl[247]? = some (Cond.fieldLink "ShiftedShapes" 62 "ShiftedShapes" "FIRST_TIMES" "[I") := by decide +kernel
theorem tw_249 : lw_tbl[249]? = some (Cond.fieldLink "ShiftedShapes" 66 "ShiftedShapes" "FIRST_PITCHES" "[I") := by decide +kernel
theorem tw_258 : lw_tbl[258]? = some (Cond.fieldLink "ShiftedShapes" 12 "ShiftedShapes" "script" "LShiftedShapes$Script;") := by decide +kernel
theorem tw_259 : lw_tbl[259]? = some (Cond.fieldLink "ShiftedShapes" 19 "ShiftedShapes" "piece" "LShiftedShapes$Piece;") := by decide +kernel
theorem tw_260 : lw_tbl[260]? = some (Cond.fieldLink "ShiftedShapes" 23 "ShiftedShapes" "trial" "LShiftedShapes$Piece;") := by decide +kernel
theorem tw_261 : lw_tbl[261]? = some (Cond.fieldLink "ShiftedShapes" 31 "ShiftedShapes" "undoable" "LShiftedShapes$Pile;") := by decide +kernel
theorem tw_262 : lw_tbl[262]? = some (Cond.fieldLink "ShiftedShapes" 35 "ShiftedShapes" "kept" "LShiftedShapes$Pile;") := by decide +kernel
theorem tw_263 : lw_tbl[263]? = some (Cond.fieldLink "ShiftedShapes" 41 "ShiftedShapes" "whole" "LShiftedShapes$Search;") := by decide +kernel
theorem tw_264 : lw_tbl[264]? = some (Cond.fieldLink "ShiftedShapes" 45 "ShiftedShapes" "scratch" "LShiftedShapes$Search;") := by decide +kernel
theorem tw_265 : lw_tbl[265]? = some (Cond.fieldLink "ShiftedShapes" 51 "ShiftedShapes" "parts" "LShiftedShapes$Parting;") := by decide +kernel
theorem tw_266 : lw_tbl[266]? = some (Cond.fieldLink "ShiftedShapes" 58 "ShiftedShapes" "covering" "LShiftedShapes$Covering;") := by decide +kernel
theorem tw_267 : lw_tbl[267]? = some (Cond.fieldLink "ShiftedShapes" 241 "ShiftedShapes" "wholeKnown" "Z") := by decide +kernel
theorem tw_268 : lw_tbl[268]? = some (Cond.fieldLink "ShiftedShapes" 217 "ShiftedShapes" "betterKnown" "Z") := by decide +kernel
theorem tw_269 : lw_tbl[269]? = some (Cond.fieldLink "ShiftedShapes" 224 "ShiftedShapes" "betterCode" "I") := by decide +kernel
theorem tw_270 : lw_tbl[270]? = some (Cond.fieldLink "ShiftedShapes" 227 "ShiftedShapes" "betterGain" "I") := by decide +kernel
theorem tw_671 : lw_tbl[671]? = some (Cond.fieldLink "ShiftedShapesModel" 7 "ShiftedShapesModel" "now" "[I") := by decide +kernel
theorem tw_672 : lw_tbl[672]? = some (Cond.fieldLink "ShiftedShapesModel" 13 "ShiftedShapesModel" "read" "[I") := by decide +kernel
theorem tw_673 : lw_tbl[673]? = some (Cond.fieldLink "ShiftedShapesModel" 16 "ShiftedShapesModel" "aside" "[I") := by decide +kernel
theorem tw_674 : lw_tbl[674]? = some (Cond.fieldLink "ShiftedShapesModel" 19 "ShiftedShapesModel" "past" "[I") := by decide +kernel
theorem tw_675 : lw_tbl[675]? = some (Cond.fieldLink "ShiftedShapesModel" 86 "ShiftedShapesModel" "undos" "I") := by decide +kernel
theorem tw_676 : lw_tbl[676]? = some (Cond.fieldLink "ShiftedShapesModel" 22 "ShiftedShapesModel" "kept" "[I") := by decide +kernel
theorem tw_677 : lw_tbl[677]? = some (Cond.fieldLink "ShiftedShapesModel" 89 "ShiftedShapesModel" "keeps" "I") := by decide +kernel
theorem tw_678 : lw_tbl[678]? = some (Cond.fieldLink "ShiftedShapesModel" 25 "ShiftedShapesModel" "text" "[I") := by decide +kernel
theorem tw_679 : lw_tbl[679]? = some (Cond.fieldLink "ShiftedShapesModel" 61 "ShiftedShapesModel" "length" "I") := by decide +kernel
theorem tw_680 : lw_tbl[680]? = some (Cond.fieldLink "ShiftedShapesModel" 57 "ShiftedShapesModel" "place" "I") := by decide +kernel
theorem tw_681 : lw_tbl[681]? = some (Cond.fieldLink "ShiftedShapesModel" 28 "ShiftedShapesModel" "at" "[I") := by decide +kernel
theorem tw_682 : lw_tbl[682]? = some (Cond.fieldLink "ShiftedShapesModel" 31 "ShiftedShapesModel" "largest" "[I") := by decide +kernel
theorem tw_683 : lw_tbl[683]? = some (Cond.fieldLink "ShiftedShapesModel" 110 "ShiftedShapesModel" "modeNow" "I") := by decide +kernel
theorem tw_684 : lw_tbl[684]? = some (Cond.fieldLink "ShiftedShapesModel" 126 "ShiftedShapesModel" "places" "I") := by decide +kernel
theorem tw_685 : lw_tbl[685]? = some (Cond.fieldLink "ShiftedShapesModel" 129 "ShiftedShapesModel" "cover" "I") := by decide +kernel
theorem tw_686 : lw_tbl[686]? = some (Cond.fieldLink "ShiftedShapesModel" 136 "ShiftedShapesModel" "shapes" "I") := by decide +kernel
theorem tw_687 : lw_tbl[687]? = some (Cond.fieldLink "ShiftedShapesModel" 34 "ShiftedShapesModel" "shape" "[I") := by decide +kernel
theorem tw_688 : lw_tbl[688]? = some (Cond.fieldLink "ShiftedShapesModel" 148 "ShiftedShapesModel" "best" "I") := by decide +kernel
theorem tw_689 : lw_tbl[689]? = some (Cond.fieldLink "ShiftedShapesModel" 151 "ShiftedShapesModel" "bestGain" "I") := by decide +kernel
theorem tw_690 : lw_tbl[690]? = some (Cond.fieldLink "ShiftedShapesModel" 154 "ShiftedShapesModel" "bestCover" "I") := by decide +kernel
theorem tw_691 : lw_tbl[691]? = some (Cond.fieldLink "ShiftedShapesModel" 163 "ShiftedShapesModel" "bestPlaces" "I") := by decide +kernel
theorem tw_692 : lw_tbl[692]? = some (Cond.fieldLink "ShiftedShapesModel" 173 "ShiftedShapesModel" "parts" "I") := by decide +kernel
theorem tw_693 : lw_tbl[693]? = some (Cond.fieldLink "ShiftedShapesModel" 37 "ShiftedShapesModel" "part" "[I") := by decide +kernel
theorem tw_694 : lw_tbl[694]? = some (Cond.fieldLink "ShiftedShapesModel" 176 "ShiftedShapesModel" "rest" "I") := by decide +kernel
theorem tw_695 : lw_tbl[695]? = some (Cond.fieldLink "ShiftedShapesModel" 179 "ShiftedShapesModel" "price" "I") := by decide +kernel
theorem tw_696 : lw_tbl[696]? = some (Cond.fieldLink "ShiftedShapesModel" 40 "ShiftedShapesModel" "few" "[I") := by decide +kernel
theorem tw_697 : lw_tbl[697]? = some (Cond.fieldLink "ShiftedShapesModel" 43 "ShiftedShapesModel" "covers" "[I") := by decide +kernel
theorem tw_238 : lw_tbl[238]? = some (Cond.code yX0_init cX0_init 1 none) := by decide +kernel
theorem tw_77 : lw_tbl[77]? = some (Cond.initialized "ShiftedShapes$Covering") := by decide +kernel
theorem tw_237 : lw_tbl[237]? = some (Cond.instanceMethod yX0_init) := by decide +kernel
theorem tw_602 : lw_tbl[602]? = some (Cond.code yX0_fewestOf cX0_fewestOf 4 (some .int)) := by decide +kernel
theorem tw_601 : lw_tbl[601]? = some (Cond.instanceMethod yX0_fewestOf) := by decide +kernel
theorem tw_44 : lw_tbl[44]? = some (Cond.selects "ShiftedShapes$Covering" yX0_fewestOf yX0_fewestOf) := by decide +kernel
theorem tw_606 : lw_tbl[606]? = some (Cond.code yX0_gather cX0_gather 3 none) := by decide +kernel
theorem tw_605 : lw_tbl[605]? = some (Cond.instanceMethod yX0_gather) := by decide +kernel
theorem tw_45 : lw_tbl[45]? = some (Cond.selects "ShiftedShapes$Covering" yX0_gather yX0_gather) := by decide +kernel
theorem tw_609 : lw_tbl[609]? = some (Cond.code yX0_isWithinAnother cX0_isWithinAnother 6 (some .boolean)) := by decide +kernel
theorem tw_608 : lw_tbl[608]? = some (Cond.static yX0_isWithinAnother) := by decide +kernel
theorem tw_616 : lw_tbl[616]? = some (Cond.code yX0_isReached cX0_isReached 6 (some .boolean)) := by decide +kernel
theorem tw_615 : lw_tbl[615]? = some (Cond.static yX0_isReached) := by decide +kernel
theorem tw_207 : lw_tbl[207]? = some (Cond.code yX1_init cX1_init 1 none) := by decide +kernel
theorem tw_76 : lw_tbl[76]? = some (Cond.initialized "ShiftedShapes$Parting") := by decide +kernel
theorem tw_206 : lw_tbl[206]? = some (Cond.instanceMethod yX1_init) := by decide +kernel
theorem tw_581 : lw_tbl[581]? = some (Cond.code yX1_takeApart cX1_takeApart 6 none) := by decide +kernel
theorem tw_580 : lw_tbl[580]? = some (Cond.instanceMethod yX1_takeApart) := by decide +kernel
theorem tw_42 : lw_tbl[42]? = some (Cond.selects "ShiftedShapes$Parting" yX1_takeApart yX1_takeApart) := by decide +kernel
theorem tw_589 : lw_tbl[589]? = some (Cond.code yX1_setAside cX1_setAside 3 none) := by decide +kernel
theorem tw_588 : lw_tbl[588]? = some (Cond.instanceMethod yX1_setAside) := by decide +kernel
theorem tw_43 : lw_tbl[43]? = some (Cond.selects "ShiftedShapes$Parting" yX1_setAside yX1_setAside) := by decide +kernel
theorem tw_112 : lw_tbl[112]? = some (Cond.code yX2_init cX2_init 1 none) := by decide +kernel
theorem tw_72 : lw_tbl[72]? = some (Cond.initialized "ShiftedShapes$Piece") := by decide +kernel
theorem tw_111 : lw_tbl[111]? = some (Cond.instanceMethod yX2_init) := by decide +kernel
theorem tw_378 : lw_tbl[378]? = some (Cond.code yX2_timeOf cX2_timeOf 2 (some .int)) := by decide +kernel
theorem tw_377 : lw_tbl[377]? = some (Cond.instanceMethod yX2_timeOf) := by decide +kernel
theorem tw_13 : lw_tbl[13]? = some (Cond.selects "ShiftedShapes$Piece" yX2_timeOf yX2_timeOf) := by decide +kernel
theorem tw_382 : lw_tbl[382]? = some (Cond.code yX2_pitchOf cX2_pitchOf 2 (some .int)) := by decide +kernel
theorem tw_381 : lw_tbl[381]? = some (Cond.instanceMethod yX2_pitchOf) := by decide +kernel
theorem tw_14 : lw_tbl[14]? = some (Cond.selects "ShiftedShapes$Piece" yX2_pitchOf yX2_pitchOf) := by decide +kernel
theorem tw_457 : lw_tbl[457]? = some (Cond.code yX2_allNotes cX2_allNotes 1 (some .int)) := by decide +kernel
theorem tw_456 : lw_tbl[456]? = some (Cond.instanceMethod yX2_allNotes) := by decide +kernel
theorem tw_25 : lw_tbl[25]? = some (Cond.selects "ShiftedShapes$Piece" yX2_allNotes yX2_allNotes) := by decide +kernel
theorem tw_346 : lw_tbl[346]? = some (Cond.code yX2_numberOf cX2_numberOf 3 (some .int)) := by decide +kernel
theorem tw_345 : lw_tbl[345]? = some (Cond.instanceMethod yX2_numberOf) := by decide +kernel
theorem tw_8 : lw_tbl[8]? = some (Cond.selects "ShiftedShapes$Piece" yX2_numberOf yX2_numberOf) := by decide +kernel
theorem tw_257 : lw_tbl[257]? = some (Cond.code yX2_insert cX2_insert 3 (some .int)) := by decide +kernel
theorem tw_256 : lw_tbl[256]? = some (Cond.instanceMethod yX2_insert) := by decide +kernel
theorem tw_0 : lw_tbl[0]? = some (Cond.selects "ShiftedShapes$Piece" yX2_insert yX2_insert) := by decide +kernel
theorem tw_409 : lw_tbl[409]? = some (Cond.code yX2_remove cX2_remove 3 none) := by decide +kernel
theorem tw_408 : lw_tbl[408]? = some (Cond.instanceMethod yX2_remove) := by decide +kernel
theorem tw_18 : lw_tbl[18]? = some (Cond.selects "ShiftedShapes$Piece" yX2_remove yX2_remove) := by decide +kernel
theorem tw_433 : lw_tbl[433]? = some (Cond.code yX2_moveAll cX2_moveAll 3 none) := by decide +kernel
theorem tw_432 : lw_tbl[432]? = some (Cond.instanceMethod yX2_moveAll) := by decide +kernel
theorem tw_22 : lw_tbl[22]? = some (Cond.selects "ShiftedShapes$Piece" yX2_moveAll yX2_moveAll) := by decide +kernel
theorem tw_359 : lw_tbl[359]? = some (Cond.code yX2_copyFrom cX2_copyFrom 2 none) := by decide +kernel
theorem tw_358 : lw_tbl[358]? = some (Cond.instanceMethod yX2_copyFrom) := by decide +kernel
theorem tw_10 : lw_tbl[10]? = some (Cond.selects "ShiftedShapes$Piece" yX2_copyFrom yX2_copyFrom) := by decide +kernel
theorem tw_134 : lw_tbl[134]? = some (Cond.code yX3_init cX3_init 3 none) := by decide +kernel
theorem tw_73 : lw_tbl[73]? = some (Cond.initialized "ShiftedShapes$Pile") := by decide +kernel
theorem tw_133 : lw_tbl[133]? = some (Cond.instanceMethod yX3_init) := by decide +kernel
theorem tw_396 : lw_tbl[396]? = some (Cond.code yX3_push cX3_push 2 none) := by decide +kernel
theorem tw_395 : lw_tbl[395]? = some (Cond.instanceMethod yX3_push) := by decide +kernel
theorem tw_16 : lw_tbl[16]? = some (Cond.selects "ShiftedShapes$Pile" yX3_push yX3_push) := by decide +kernel
theorem tw_445 : lw_tbl[445]? = some (Cond.code yX3_popInto cX3_popInto 2 none) := by decide +kernel
theorem tw_444 : lw_tbl[444]? = some (Cond.instanceMethod yX3_popInto) := by decide +kernel
theorem tw_23 : lw_tbl[23]? = some (Cond.selects "ShiftedShapes$Pile" yX3_popInto yX3_popInto) := by decide +kernel
theorem tw_400 : lw_tbl[400]? = some (Cond.code yX3_dropOldest cX3_dropOldest 3 none) := by decide +kernel
theorem tw_399 : lw_tbl[399]? = some (Cond.instanceMethod yX3_dropOldest) := by decide +kernel
theorem tw_17 : lw_tbl[17]? = some (Cond.selects "ShiftedShapes$Pile" yX3_dropOldest yX3_dropOldest) := by decide +kernel
theorem tw_94 : lw_tbl[94]? = some (Cond.code yX4_init cX4_init 1 none) := by decide +kernel
theorem tw_71 : lw_tbl[71]? = some (Cond.initialized "ShiftedShapes$Script") := by decide +kernel
theorem tw_93 : lw_tbl[93]? = some (Cond.instanceMethod yX4_init) := by decide +kernel
theorem tw_305 : lw_tbl[305]? = some (Cond.code yX4_append cX4_append 2 (some .boolean)) := by decide +kernel
theorem tw_304 : lw_tbl[304]? = some (Cond.instanceMethod yX4_append) := by decide +kernel
theorem tw_1 : lw_tbl[1]? = some (Cond.selects "ShiftedShapes$Script" yX4_append yX4_append) := by decide +kernel
theorem tw_317 : lw_tbl[317]? = some (Cond.code yX4_readInto cX4_readInto 4 (some .int)) := by decide +kernel
theorem tw_316 : lw_tbl[316]? = some (Cond.instanceMethod yX4_readInto) := by decide +kernel
theorem tw_2 : lw_tbl[2]? = some (Cond.selects "ShiftedShapes$Script" yX4_readInto yX4_readInto) := by decide +kernel
theorem tw_321 : lw_tbl[321]? = some (Cond.code yX4_readItem cX4_readItem 2 (some .boolean)) := by decide +kernel
theorem tw_320 : lw_tbl[320]? = some (Cond.instanceMethod yX4_readItem) := by decide +kernel
theorem tw_3 : lw_tbl[3]? = some (Cond.selects "ShiftedShapes$Script" yX4_readItem yX4_readItem) := by decide +kernel
theorem tw_329 : lw_tbl[329]? = some (Cond.code yX4_readNote cX4_readNote 4 (some .boolean)) := by decide +kernel
theorem tw_328 : lw_tbl[328]? = some (Cond.instanceMethod yX4_readNote) := by decide +kernel
theorem tw_5 : lw_tbl[5]? = some (Cond.selects "ShiftedShapes$Script" yX4_readNote yX4_readNote) := by decide +kernel
theorem tw_351 : lw_tbl[351]? = some (Cond.code yX4_readManner cX4_readManner 3 (some .boolean)) := by decide +kernel
theorem tw_350 : lw_tbl[350]? = some (Cond.instanceMethod yX4_readManner) := by decide +kernel
theorem tw_9 : lw_tbl[9]? = some (Cond.selects "ShiftedShapes$Script" yX4_readManner yX4_readManner) := by decide +kernel
theorem tw_333 : lw_tbl[333]? = some (Cond.code yX4_readNumber cX4_readNumber 3 (some .int)) := by decide +kernel
theorem tw_332 : lw_tbl[332]? = some (Cond.instanceMethod yX4_readNumber) := by decide +kernel
theorem tw_6 : lw_tbl[6]? = some (Cond.selects "ShiftedShapes$Script" yX4_readNumber yX4_readNumber) := by decide +kernel
theorem tw_337 : lw_tbl[337]? = some (Cond.code yX4_isFigure cX4_isFigure 1 (some .boolean)) := by decide +kernel
theorem tw_336 : lw_tbl[336]? = some (Cond.instanceMethod yX4_isFigure) := by decide +kernel
theorem tw_7 : lw_tbl[7]? = some (Cond.selects "ShiftedShapes$Script" yX4_isFigure yX4_isFigure) := by decide +kernel
theorem tw_325 : lw_tbl[325]? = some (Cond.code yX4_skip cX4_skip 2 (some .boolean)) := by decide +kernel
theorem tw_324 : lw_tbl[324]? = some (Cond.instanceMethod yX4_skip) := by decide +kernel
theorem tw_4 : lw_tbl[4]? = some (Cond.selects "ShiftedShapes$Script" yX4_skip yX4_skip) := by decide +kernel
theorem tw_154 : lw_tbl[154]? = some (Cond.code yX5_init cX5_init 1 none) := by decide +kernel
theorem tw_75 : lw_tbl[75]? = some (Cond.initialized "ShiftedShapes$Search") := by decide +kernel
theorem tw_153 : lw_tbl[153]? = some (Cond.instanceMethod yX5_init) := by decide +kernel
theorem tw_461 : lw_tbl[461]? = some (Cond.code yX5_lookOver cX5_lookOver 4 none) := by decide +kernel
theorem tw_460 : lw_tbl[460]? = some (Cond.instanceMethod yX5_lookOver) := by decide +kernel
theorem tw_26 : lw_tbl[26]? = some (Cond.selects "ShiftedShapes$Search" yX5_lookOver yX5_lookOver) := by decide +kernel
theorem tw_470 : lw_tbl[470]? = some (Cond.code yX5_has cX5_has 2 (some .boolean)) := by decide +kernel
theorem tw_469 : lw_tbl[469]? = some (Cond.static yX5_has) := by decide +kernel
theorem tw_499 : lw_tbl[499]? = some (Cond.code yX5_hasTwo cX5_hasTwo 1 (some .boolean)) := by decide +kernel
theorem tw_498 : lw_tbl[498]? = some (Cond.static yX5_hasTwo) := by decide +kernel
theorem tw_492 : lw_tbl[492]? = some (Cond.code yX5_shiftOf cX5_shiftOf 2 (some .int)) := by decide +kernel
theorem tw_491 : lw_tbl[491]? = some (Cond.static yX5_shiftOf) := by decide +kernel
theorem tw_514 : lw_tbl[514]? = some (Cond.code yX5_timePart cX5_timePart 1 (some .int)) := by decide +kernel
theorem tw_513 : lw_tbl[513]? = some (Cond.static yX5_timePart) := by decide +kernel
theorem tw_517 : lw_tbl[517]? = some (Cond.code yX5_pitchPart cX5_pitchPart 1 (some .int)) := by decide +kernel
theorem tw_516 : lw_tbl[516]? = some (Cond.static yX5_pitchPart) := by decide +kernel
theorem tw_475 : lw_tbl[475]? = some (Cond.code yX5_findLargests cX5_findLargests 3 none) := by decide +kernel
theorem tw_474 : lw_tbl[474]? = some (Cond.instanceMethod yX5_findLargests) := by decide +kernel
theorem tw_27 : lw_tbl[27]? = some (Cond.selects "ShiftedShapes$Search" yX5_findLargests yX5_findLargests) := by decide +kernel
theorem tw_479 : lw_tbl[479]? = some (Cond.code yX5_enterPair cX5_enterPair 5 none) := by decide +kernel
theorem tw_478 : lw_tbl[478]? = some (Cond.instanceMethod yX5_enterPair) := by decide +kernel
theorem tw_28 : lw_tbl[28]? = some (Cond.selects "ShiftedShapes$Search" yX5_enterPair yX5_enterPair) := by decide +kernel
theorem tw_486 : lw_tbl[486]? = some (Cond.code yX5_enter cX5_enter 4 none) := by decide +kernel
theorem tw_485 : lw_tbl[485]? = some (Cond.instanceMethod yX5_enter) := by decide +kernel
theorem tw_29 : lw_tbl[29]? = some (Cond.selects "ShiftedShapes$Search" yX5_enter yX5_enter) := by decide +kernel
theorem tw_489 : lw_tbl[489]? = some (Cond.code yX5_isHeld cX5_isHeld 2 (some .boolean)) := by decide +kernel
theorem tw_488 : lw_tbl[488]? = some (Cond.static yX5_isHeld) := by decide +kernel
theorem tw_496 : lw_tbl[496]? = some (Cond.code yX5_findWideShifts cX5_findWideShifts 2 none) := by decide +kernel
theorem tw_495 : lw_tbl[495]? = some (Cond.instanceMethod yX5_findWideShifts) := by decide +kernel
theorem tw_30 : lw_tbl[30]? = some (Cond.selects "ShiftedShapes$Search" yX5_findWideShifts yX5_findWideShifts) := by decide +kernel
theorem tw_503 : lw_tbl[503]? = some (Cond.code yX5_findShapes cX5_findShapes 3 none) := by decide +kernel
theorem tw_502 : lw_tbl[502]? = some (Cond.instanceMethod yX5_findShapes) := by decide +kernel
theorem tw_31 : lw_tbl[31]? = some (Cond.selects "ShiftedShapes$Search" yX5_findShapes yX5_findShapes) := by decide +kernel
theorem tw_507 : lw_tbl[507]? = some (Cond.code yX5_isShape cX5_isShape 3 (some .boolean)) := by decide +kernel
theorem tw_506 : lw_tbl[506]? = some (Cond.instanceMethod yX5_isShape) := by decide +kernel
theorem tw_32 : lw_tbl[32]? = some (Cond.selects "ShiftedShapes$Search" yX5_isShape yX5_isShape) := by decide +kernel
theorem tw_511 : lw_tbl[511]? = some (Cond.code yX5_measureShape cX5_measureShape 9 none) := by decide +kernel
theorem tw_510 : lw_tbl[510]? = some (Cond.instanceMethod yX5_measureShape) := by decide +kernel
theorem tw_33 : lw_tbl[33]? = some (Cond.selects "ShiftedShapes$Search" yX5_measureShape yX5_measureShape) := by decide +kernel
theorem tw_521 : lw_tbl[521]? = some (Cond.code yX5_met cX5_met 7 (some .int)) := by decide +kernel
theorem tw_520 : lw_tbl[520]? = some (Cond.instanceMethod yX5_met) := by decide +kernel
theorem tw_34 : lw_tbl[34]? = some (Cond.selects "ShiftedShapes$Search" yX5_met yX5_met) := by decide +kernel
theorem tw_525 : lw_tbl[525]? = some (Cond.code yX5_numberAt cX5_numberAt 3 (some .int)) := by decide +kernel
theorem tw_524 : lw_tbl[524]? = some (Cond.instanceMethod yX5_numberAt) := by decide +kernel
theorem tw_35 : lw_tbl[35]? = some (Cond.selects "ShiftedShapes$Search" yX5_numberAt yX5_numberAt) := by decide +kernel
theorem tw_529 : lw_tbl[529]? = some (Cond.code yX5_largestOf cX5_largestOf 3 (some .int)) := by decide +kernel
theorem tw_528 : lw_tbl[528]? = some (Cond.instanceMethod yX5_largestOf) := by decide +kernel
theorem tw_36 : lw_tbl[36]? = some (Cond.selects "ShiftedShapes$Search" yX5_largestOf yX5_largestOf) := by decide +kernel
theorem tw_556 : lw_tbl[556]? = some (Cond.code yX5_placesOf cX5_placesOf 4 (some .int)) := by decide +kernel
theorem tw_555 : lw_tbl[555]? = some (Cond.instanceMethod yX5_placesOf) := by decide +kernel
theorem tw_38 : lw_tbl[38]? = some (Cond.selects "ShiftedShapes$Search" yX5_placesOf yX5_placesOf) := by decide +kernel
theorem tw_560 : lw_tbl[560]? = some (Cond.code yX5_placeOf cX5_placeOf 5 (some .int)) := by decide +kernel
theorem tw_559 : lw_tbl[559]? = some (Cond.instanceMethod yX5_placeOf) := by decide +kernel
theorem tw_39 : lw_tbl[39]? = some (Cond.selects "ShiftedShapes$Search" yX5_placeOf yX5_placeOf) := by decide +kernel
theorem tw_542 : lw_tbl[542]? = some (Cond.code yX5_gainOf cX5_gainOf 2 (some .int)) := by decide +kernel
theorem tw_541 : lw_tbl[541]? = some (Cond.instanceMethod yX5_gainOf) := by decide +kernel
theorem tw_37 : lw_tbl[37]? = some (Cond.selects "ShiftedShapes$Search" yX5_gainOf yX5_gainOf) := by decide +kernel
theorem tw_568 : lw_tbl[568]? = some (Cond.code yX5_bestShape cX5_bestShape 3 (some .int)) := by decide +kernel
theorem tw_567 : lw_tbl[567]? = some (Cond.instanceMethod yX5_bestShape) := by decide +kernel
theorem tw_40 : lw_tbl[40]? = some (Cond.selects "ShiftedShapes$Search" yX5_bestShape yX5_bestShape) := by decide +kernel
theorem tw_572 : lw_tbl[572]? = some (Cond.code yX5_isBetter cX5_isBetter 5 (some .boolean)) := by decide +kernel
theorem tw_571 : lw_tbl[571]? = some (Cond.instanceMethod yX5_isBetter) := by decide +kernel
theorem tw_41 : lw_tbl[41]? = some (Cond.selects "ShiftedShapes$Search" yX5_isBetter yX5_isBetter) := by decide +kernel
theorem tw_613 : lw_tbl[613]? = some (Cond.code yX5_covered cX5_covered 3 (some .int)) := by decide +kernel
theorem tw_612 : lw_tbl[612]? = some (Cond.instanceMethod yX5_covered) := by decide +kernel
theorem tw_46 : lw_tbl[46]? = some (Cond.selects "ShiftedShapes$Search" yX5_covered yX5_covered) := by decide +kernel
theorem tw_86 : lw_tbl[86]? = some (Cond.code yX6_init cX6_init 2 none) := by decide +kernel
theorem tw_70 : lw_tbl[70]? = some (Cond.initialized "ShiftedShapes") := by decide +kernel
theorem tw_85 : lw_tbl[85]? = some (Cond.instanceMethod yX6_init) := by decide +kernel
theorem tw_301 : lw_tbl[301]? = some (Cond.code yX6_write cX6_write 2 (some .int)) := by decide +kernel
theorem tw_299 : lw_tbl[299]? = some (Cond.instanceMethod yX6_write) := by decide +kernel
theorem tw_300 : lw_tbl[300]? = some (Cond.selects "ShiftedShapes" yX6_write yX6_write) := by decide +kernel
theorem tw_309 : lw_tbl[309]? = some (Cond.code yX6_wipe cX6_wipe 2 (some .int)) := by decide +kernel
theorem tw_307 : lw_tbl[307]? = some (Cond.instanceMethod yX6_wipe) := by decide +kernel
theorem tw_308 : lw_tbl[308]? = some (Cond.selects "ShiftedShapes" yX6_wipe yX6_wipe) := by decide +kernel
theorem tw_313 : lw_tbl[313]? = some (Cond.code yX6_fault cX6_fault 1 (some .int)) := by decide +kernel
theorem tw_311 : lw_tbl[311]? = some (Cond.instanceMethod yX6_fault) := by decide +kernel
theorem tw_312 : lw_tbl[312]? = some (Cond.selects "ShiftedShapes" yX6_fault yX6_fault) := by decide +kernel
theorem tw_355 : lw_tbl[355]? = some (Cond.code yX6_lay cX6_lay 1 (some .int)) := by decide +kernel
theorem tw_353 : lw_tbl[353]? = some (Cond.instanceMethod yX6_lay) := by decide +kernel
theorem tw_354 : lw_tbl[354]? = some (Cond.selects "ShiftedShapes" yX6_lay yX6_lay) := by decide +kernel
theorem tw_370 : lw_tbl[370]? = some (Cond.code yX6_note cX6_note 3 (some .int)) := by decide +kernel
theorem tw_368 : lw_tbl[368]? = some (Cond.instanceMethod yX6_note) := by decide +kernel
theorem tw_369 : lw_tbl[369]? = some (Cond.selects "ShiftedShapes" yX6_note yX6_note) := by decide +kernel
theorem tw_386 : lw_tbl[386]? = some (Cond.code yX6_put cX6_put 3 (some .int)) := by decide +kernel
theorem tw_384 : lw_tbl[384]? = some (Cond.instanceMethod yX6_put) := by decide +kernel
theorem tw_385 : lw_tbl[385]? = some (Cond.selects "ShiftedShapes" yX6_put yX6_put) := by decide +kernel
theorem tw_405 : lw_tbl[405]? = some (Cond.code yX6_take cX6_take 2 (some .int)) := by decide +kernel
theorem tw_403 : lw_tbl[403]? = some (Cond.instanceMethod yX6_take) := by decide +kernel
theorem tw_404 : lw_tbl[404]? = some (Cond.selects "ShiftedShapes" yX6_take yX6_take) := by decide +kernel
theorem tw_413 : lw_tbl[413]? = some (Cond.code yX6_shift cX6_shift 5 (some .int)) := by decide +kernel
theorem tw_411 : lw_tbl[411]? = some (Cond.instanceMethod yX6_shift) := by decide +kernel
theorem tw_412 : lw_tbl[412]? = some (Cond.selects "ShiftedShapes" yX6_shift yX6_shift) := by decide +kernel
theorem tw_429 : lw_tbl[429]? = some (Cond.code yX6_shiftAll cX6_shiftAll 4 (some .int)) := by decide +kernel
theorem tw_427 : lw_tbl[427]? = some (Cond.instanceMethod yX6_shiftAll) := by decide +kernel
theorem tw_428 : lw_tbl[428]? = some (Cond.selects "ShiftedShapes" yX6_shiftAll yX6_shiftAll) := by decide +kernel
theorem tw_437 : lw_tbl[437]? = some (Cond.code yX6_mode cX6_mode 3 (some .int)) := by decide +kernel
theorem tw_435 : lw_tbl[435]? = some (Cond.instanceMethod yX6_mode) := by decide +kernel
theorem tw_436 : lw_tbl[436]? = some (Cond.selects "ShiftedShapes" yX6_mode yX6_mode) := by decide +kernel
theorem tw_441 : lw_tbl[441]? = some (Cond.code yX6_undo cX6_undo 1 (some .int)) := by decide +kernel
theorem tw_439 : lw_tbl[439]? = some (Cond.instanceMethod yX6_undo) := by decide +kernel
theorem tw_440 : lw_tbl[440]? = some (Cond.selects "ShiftedShapes" yX6_undo yX6_undo) := by decide +kernel
theorem tw_449 : lw_tbl[449]? = some (Cond.code yX6_largest cX6_largest 3 (some .int)) := by decide +kernel
theorem tw_447 : lw_tbl[447]? = some (Cond.instanceMethod yX6_largest) := by decide +kernel
theorem tw_448 : lw_tbl[448]? = some (Cond.selects "ShiftedShapes" yX6_largest yX6_largest) := by decide +kernel
theorem tw_533 : lw_tbl[533]? = some (Cond.code yX6_meets cX6_meets 4 (some .int)) := by decide +kernel
theorem tw_531 : lw_tbl[531]? = some (Cond.instanceMethod yX6_meets) := by decide +kernel
theorem tw_532 : lw_tbl[532]? = some (Cond.selects "ShiftedShapes" yX6_meets yX6_meets) := by decide +kernel
theorem tw_538 : lw_tbl[538]? = some (Cond.code yX6_shape cX6_shape 4 (some .int)) := by decide +kernel
theorem tw_536 : lw_tbl[536]? = some (Cond.instanceMethod yX6_shape) := by decide +kernel
theorem tw_537 : lw_tbl[537]? = some (Cond.selects "ShiftedShapes" yX6_shape yX6_shape) := by decide +kernel
theorem tw_552 : lw_tbl[552]? = some (Cond.code yX6_place cX6_place 3 (some .int)) := by decide +kernel
theorem tw_550 : lw_tbl[550]? = some (Cond.instanceMethod yX6_place) := by decide +kernel
theorem tw_551 : lw_tbl[551]? = some (Cond.selects "ShiftedShapes" yX6_place yX6_place) := by decide +kernel
theorem tw_564 : lw_tbl[564]? = some (Cond.code yX6_best cX6_best 3 (some .int)) := by decide +kernel
theorem tw_562 : lw_tbl[562]? = some (Cond.instanceMethod yX6_best) := by decide +kernel
theorem tw_563 : lw_tbl[563]? = some (Cond.selects "ShiftedShapes" yX6_best yX6_best) := by decide +kernel
theorem tw_577 : lw_tbl[577]? = some (Cond.code yX6_parted cX6_parted 3 (some .int)) := by decide +kernel
theorem tw_575 : lw_tbl[575]? = some (Cond.instanceMethod yX6_parted) := by decide +kernel
theorem tw_576 : lw_tbl[576]? = some (Cond.selects "ShiftedShapes" yX6_parted yX6_parted) := by decide +kernel
theorem tw_594 : lw_tbl[594]? = some (Cond.code yX6_parting cX6_parting 2 (some .int)) := by decide +kernel
theorem tw_592 : lw_tbl[592]? = some (Cond.instanceMethod yX6_parting) := by decide +kernel
theorem tw_593 : lw_tbl[593]? = some (Cond.selects "ShiftedShapes" yX6_parting yX6_parting) := by decide +kernel
theorem tw_598 : lw_tbl[598]? = some (Cond.code yX6_shapes cX6_shapes 2 (some .int)) := by decide +kernel
theorem tw_596 : lw_tbl[596]? = some (Cond.instanceMethod yX6_shapes) := by decide +kernel
theorem tw_597 : lw_tbl[597]? = some (Cond.selects "ShiftedShapes" yX6_shapes yX6_shapes) := by decide +kernel
theorem tw_621 : lw_tbl[621]? = some (Cond.code yX6_link cX6_link 6 (some .int)) := by decide +kernel
theorem tw_619 : lw_tbl[619]? = some (Cond.instanceMethod yX6_link) := by decide +kernel
theorem tw_620 : lw_tbl[620]? = some (Cond.selects "ShiftedShapes" yX6_link yX6_link) := by decide +kernel
theorem tw_627 : lw_tbl[627]? = some (Cond.code yX6_better cX6_better 2 (some .int)) := by decide +kernel
theorem tw_625 : lw_tbl[625]? = some (Cond.instanceMethod yX6_better) := by decide +kernel
theorem tw_626 : lw_tbl[626]? = some (Cond.selects "ShiftedShapes" yX6_better yX6_better) := by decide +kernel
theorem tw_635 : lw_tbl[635]? = some (Cond.code yX6_day cX6_day 5 (some .int)) := by decide +kernel
theorem tw_633 : lw_tbl[633]? = some (Cond.instanceMethod yX6_day) := by decide +kernel
theorem tw_634 : lw_tbl[634]? = some (Cond.selects "ShiftedShapes" yX6_day yX6_day) := by decide +kernel
theorem tw_646 : lw_tbl[646]? = some (Cond.code yX6_keep cX6_keep 1 (some .int)) := by decide +kernel
theorem tw_644 : lw_tbl[644]? = some (Cond.instanceMethod yX6_keep) := by decide +kernel
theorem tw_645 : lw_tbl[645]? = some (Cond.selects "ShiftedShapes" yX6_keep yX6_keep) := by decide +kernel
theorem tw_650 : lw_tbl[650]? = some (Cond.code yX6_back cX6_back 1 (some .int)) := by decide +kernel
theorem tw_648 : lw_tbl[648]? = some (Cond.instanceMethod yX6_back) := by decide +kernel
theorem tw_649 : lw_tbl[649]? = some (Cond.selects "ShiftedShapes" yX6_back yX6_back) := by decide +kernel
theorem tw_654 : lw_tbl[654]? = some (Cond.code yX6_count cX6_count 2 (some .int)) := by decide +kernel
theorem tw_652 : lw_tbl[652]? = some (Cond.instanceMethod yX6_count) := by decide +kernel
theorem tw_653 : lw_tbl[653]? = some (Cond.selects "ShiftedShapes" yX6_count yX6_count) := by decide +kernel
theorem tw_392 : lw_tbl[392]? = some (Cond.code yX6_beginAct cX6_beginAct 1 none) := by decide +kernel
theorem tw_391 : lw_tbl[391]? = some (Cond.instanceMethod yX6_beginAct) := by decide +kernel
theorem tw_15 : lw_tbl[15]? = some (Cond.selects "ShiftedShapes" yX6_beginAct yX6_beginAct) := by decide +kernel
theorem tw_366 : lw_tbl[366]? = some (Cond.code yX6_forgetFindings cX6_forgetFindings 1 none) := by decide +kernel
theorem tw_365 : lw_tbl[365]? = some (Cond.instanceMethod yX6_forgetFindings) := by decide +kernel
theorem tw_11 : lw_tbl[11]? = some (Cond.selects "ShiftedShapes" yX6_forgetFindings yX6_forgetFindings) := by decide +kernel
theorem tw_453 : lw_tbl[453]? = some (Cond.code yX6_wholeSearch cX6_wholeSearch 1 (some (.object "ShiftedShapes$Search"))) := by decide +kernel
theorem tw_452 : lw_tbl[452]? = some (Cond.instanceMethod yX6_wholeSearch) := by decide +kernel
theorem tw_24 : lw_tbl[24]? = some (Cond.selects "ShiftedShapes" yX6_wholeSearch yX6_wholeSearch) := by decide +kernel
theorem tw_631 : lw_tbl[631]? = some (Cond.code yX6_findBetter cX6_findBetter 4 none) := by decide +kernel
theorem tw_630 : lw_tbl[630]? = some (Cond.instanceMethod yX6_findBetter) := by decide +kernel
theorem tw_47 : lw_tbl[47]? = some (Cond.selects "ShiftedShapes" yX6_findBetter yX6_findBetter) := by decide +kernel
theorem tw_639 : lw_tbl[639]? = some (Cond.code yX6_drawOnce cX6_drawOnce 8 none) := by decide +kernel
theorem tw_638 : lw_tbl[638]? = some (Cond.instanceMethod yX6_drawOnce) := by decide +kernel
theorem tw_48 : lw_tbl[48]? = some (Cond.selects "ShiftedShapes" yX6_drawOnce yX6_drawOnce) := by decide +kernel
theorem tw_374 : lw_tbl[374]? = some (Cond.code yX6_isNote cX6_isNote 2 (some .boolean)) := by decide +kernel
theorem tw_373 : lw_tbl[373]? = some (Cond.instanceMethod yX6_isNote) := by decide +kernel
theorem tw_12 : lw_tbl[12]? = some (Cond.selects "ShiftedShapes" yX6_isNote yX6_isNote) := by decide +kernel
theorem tw_421 : lw_tbl[421]? = some (Cond.code yX6_isShift cX6_isShift 4 (some .boolean)) := by decide +kernel
theorem tw_420 : lw_tbl[420]? = some (Cond.instanceMethod yX6_isShift) := by decide +kernel
theorem tw_20 : lw_tbl[20]? = some (Cond.selects "ShiftedShapes" yX6_isShift yX6_isShift) := by decide +kernel
theorem tw_417 : lw_tbl[417]? = some (Cond.code yX6_isMove cX6_isMove 3 (some .boolean)) := by decide +kernel
theorem tw_416 : lw_tbl[416]? = some (Cond.instanceMethod yX6_isMove) := by decide +kernel
theorem tw_19 : lw_tbl[19]? = some (Cond.selects "ShiftedShapes" yX6_isMove yX6_isMove) := by decide +kernel
theorem tw_425 : lw_tbl[425]? = some (Cond.code yX6_staysWithin cX6_staysWithin 4 (some .boolean)) := by decide +kernel
theorem tw_424 : lw_tbl[424]? = some (Cond.instanceMethod yX6_staysWithin) := by decide +kernel
theorem tw_21 : lw_tbl[21]? = some (Cond.selects "ShiftedShapes" yX6_staysWithin yX6_staysWithin) := by decide +kernel
theorem tw_341 : lw_tbl[341]? = some (Cond.code yX6_isWithin cX6_isWithin 2 (some .boolean)) := by decide +kernel
theorem tw_340 : lw_tbl[340]? = some (Cond.static yX6_isWithin) := by decide +kernel
theorem tw_253 : lw_tbl[253]? = some (Cond.code yX6_codeOf cX6_codeOf 2 (some .int)) := by decide +kernel
theorem tw_252 : lw_tbl[252]? = some (Cond.static yX6_codeOf) := by decide +kernel
theorem tw_659 : lw_tbl[659]? = some (Cond.code yX7_init cX7_init 1 none) := by decide +kernel
theorem tw_78 : lw_tbl[78]? = some (Cond.initialized "ShiftedShapesModel") := by decide +kernel
theorem tw_658 : lw_tbl[658]? = some (Cond.instanceMethod yX7_init) := by decide +kernel
theorem tw_664 : lw_tbl[664]? = some (Cond.code yX7_begins cX7_begins 1 none) := by decide +kernel
theorem tw_663 : lw_tbl[663]? = some (Cond.instanceMethod yX7_begins) := by decide +kernel
theorem tw_49 : lw_tbl[49]? = some (Cond.selects "ShiftedShapesModel" yX7_begins yX7_begins) := by decide +kernel
theorem tw_759 : lw_tbl[759]? = some (Cond.code yX7_in cX7_in 3 (some .boolean)) := by decide +kernel
theorem tw_758 : lw_tbl[758]? = some (Cond.static yX7_in) := by decide +kernel
theorem tw_850 : lw_tbl[850]? = some (Cond.code yX7_has cX7_has 2 (some .boolean)) := by decide +kernel
theorem tw_849 : lw_tbl[849]? = some (Cond.static yX7_has) := by decide +kernel
theorem tw_877 : lw_tbl[877]? = some (Cond.code yX7_bits cX7_bits 3 (some .int)) := by decide +kernel
theorem tw_876 : lw_tbl[876]? = some (Cond.static yX7_bits) := by decide +kernel
theorem tw_670 : lw_tbl[670]? = some (Cond.code yX7_copies cX7_copies 5 none) := by decide +kernel
theorem tw_669 : lw_tbl[669]? = some (Cond.static yX7_copies) := by decide +kernel
theorem tw_786 : lw_tbl[786]? = some (Cond.code yX7_numberOf cX7_numberOf 4 (some .int)) := by decide +kernel
theorem tw_785 : lw_tbl[785]? = some (Cond.static yX7_numberOf) := by decide +kernel
theorem tw_667 : lw_tbl[667]? = some (Cond.code yX7_puts cX7_puts 4 (some .int)) := by decide +kernel
theorem tw_666 : lw_tbl[666]? = some (Cond.static yX7_puts) := by decide +kernel
theorem tw_816 : lw_tbl[816]? = some (Cond.code yX7_leaves cX7_leaves 3 none) := by decide +kernel
theorem tw_815 : lw_tbl[815]? = some (Cond.static yX7_leaves) := by decide +kernel
theorem tw_779 : lw_tbl[779]? = some (Cond.code yX7_here cX7_here 1 (some .int)) := by decide +kernel
theorem tw_778 : lw_tbl[778]? = some (Cond.instanceMethod yX7_here) := by decide +kernel
theorem tw_52 : lw_tbl[52]? = some (Cond.selects "ShiftedShapesModel" yX7_here yX7_here) := by decide +kernel
theorem tw_783 : lw_tbl[783]? = some (Cond.code yX7_number cX7_number 5 (some .int)) := by decide +kernel
theorem tw_782 : lw_tbl[782]? = some (Cond.instanceMethod yX7_number) := by decide +kernel
theorem tw_53 : lw_tbl[53]? = some (Cond.selects "ShiftedShapesModel" yX7_number yX7_number) := by decide +kernel
theorem tw_775 : lw_tbl[775]? = some (Cond.code yX7_readsItem cX7_readsItem 4 (some .boolean)) := by decide +kernel
theorem tw_774 : lw_tbl[774]? = some (Cond.instanceMethod yX7_readsItem) := by decide +kernel
theorem tw_51 : lw_tbl[51]? = some (Cond.selects "ShiftedShapesModel" yX7_readsItem yX7_readsItem) := by decide +kernel
theorem tw_771 : lw_tbl[771]? = some (Cond.code yX7_reading cX7_reading 2 (some .int)) := by decide +kernel
theorem tw_770 : lw_tbl[770]? = some (Cond.instanceMethod yX7_reading) := by decide +kernel
theorem tw_50 : lw_tbl[50]? = some (Cond.selects "ShiftedShapesModel" yX7_reading yX7_reading) := by decide +kernel
theorem tw_756 : lw_tbl[756]? = some (Cond.code yX7_write cX7_write 2 (some .int)) := by decide +kernel
theorem tw_754 : lw_tbl[754]? = some (Cond.instanceMethod yX7_write) := by decide +kernel
theorem tw_755 : lw_tbl[755]? = some (Cond.selects "ShiftedShapesModel" yX7_write yX7_write) := by decide +kernel
theorem tw_763 : lw_tbl[763]? = some (Cond.code yX7_wipe cX7_wipe 2 (some .int)) := by decide +kernel
theorem tw_761 : lw_tbl[761]? = some (Cond.instanceMethod yX7_wipe) := by decide +kernel
theorem tw_762 : lw_tbl[762]? = some (Cond.selects "ShiftedShapesModel" yX7_wipe yX7_wipe) := by decide +kernel
theorem tw_767 : lw_tbl[767]? = some (Cond.code yX7_fault cX7_fault 1 (some .int)) := by decide +kernel
theorem tw_765 : lw_tbl[765]? = some (Cond.instanceMethod yX7_fault) := by decide +kernel
theorem tw_766 : lw_tbl[766]? = some (Cond.selects "ShiftedShapesModel" yX7_fault yX7_fault) := by decide +kernel
theorem tw_790 : lw_tbl[790]? = some (Cond.code yX7_lay cX7_lay 1 (some .int)) := by decide +kernel
theorem tw_788 : lw_tbl[788]? = some (Cond.instanceMethod yX7_lay) := by decide +kernel
theorem tw_789 : lw_tbl[789]? = some (Cond.selects "ShiftedShapesModel" yX7_lay yX7_lay) := by decide +kernel
theorem tw_798 : lw_tbl[798]? = some (Cond.code yX7_isNote cX7_isNote 2 (some .boolean)) := by decide +kernel
theorem tw_797 : lw_tbl[797]? = some (Cond.instanceMethod yX7_isNote) := by decide +kernel
theorem tw_54 : lw_tbl[54]? = some (Cond.selects "ShiftedShapesModel" yX7_isNote yX7_isNote) := by decide +kernel
theorem tw_794 : lw_tbl[794]? = some (Cond.code yX7_note cX7_note 3 (some .int)) := by decide +kernel
theorem tw_792 : lw_tbl[792]? = some (Cond.instanceMethod yX7_note) := by decide +kernel
theorem tw_793 : lw_tbl[793]? = some (Cond.selects "ShiftedShapesModel" yX7_note yX7_note) := by decide +kernel
theorem tw_809 : lw_tbl[809]? = some (Cond.code yX7_notes cX7_notes 2 none) := by decide +kernel
theorem tw_808 : lw_tbl[808]? = some (Cond.instanceMethod yX7_notes) := by decide +kernel
theorem tw_55 : lw_tbl[55]? = some (Cond.selects "ShiftedShapesModel" yX7_notes yX7_notes) := by decide +kernel
theorem tw_805 : lw_tbl[805]? = some (Cond.code yX7_isThere cX7_isThere 2 (some .boolean)) := by decide +kernel
theorem tw_804 : lw_tbl[804]? = some (Cond.static yX7_isThere) := by decide +kernel
theorem tw_802 : lw_tbl[802]? = some (Cond.code yX7_put cX7_put 3 (some .int)) := by decide +kernel
theorem tw_800 : lw_tbl[800]? = some (Cond.instanceMethod yX7_put) := by decide +kernel
theorem tw_801 : lw_tbl[801]? = some (Cond.selects "ShiftedShapesModel" yX7_put yX7_put) := by decide +kernel
theorem tw_813 : lw_tbl[813]? = some (Cond.code yX7_take cX7_take 2 (some .int)) := by decide +kernel
theorem tw_811 : lw_tbl[811]? = some (Cond.instanceMethod yX7_take) := by decide +kernel
theorem tw_812 : lw_tbl[812]? = some (Cond.selects "ShiftedShapesModel" yX7_take yX7_take) := by decide +kernel
theorem tw_824 : lw_tbl[824]? = some (Cond.code yX7_isShift cX7_isShift 3 (some .boolean)) := by decide +kernel
theorem tw_823 : lw_tbl[823]? = some (Cond.instanceMethod yX7_isShift) := by decide +kernel
theorem tw_56 : lw_tbl[56]? = some (Cond.selects "ShiftedShapesModel" yX7_isShift yX7_isShift) := by decide +kernel
theorem tw_820 : lw_tbl[820]? = some (Cond.code yX7_shift cX7_shift 6 (some .int)) := by decide +kernel
theorem tw_818 : lw_tbl[818]? = some (Cond.instanceMethod yX7_shift) := by decide +kernel
theorem tw_819 : lw_tbl[819]? = some (Cond.selects "ShiftedShapesModel" yX7_shift yX7_shift) := by decide +kernel
theorem tw_828 : lw_tbl[828]? = some (Cond.code yX7_shiftAll cX7_shiftAll 4 (some .int)) := by decide +kernel
theorem tw_826 : lw_tbl[826]? = some (Cond.instanceMethod yX7_shiftAll) := by decide +kernel
theorem tw_827 : lw_tbl[827]? = some (Cond.selects "ShiftedShapesModel" yX7_shiftAll yX7_shiftAll) := by decide +kernel
theorem tw_832 : lw_tbl[832]? = some (Cond.code yX7_mode cX7_mode 3 (some .int)) := by decide +kernel
theorem tw_830 : lw_tbl[830]? = some (Cond.instanceMethod yX7_mode) := by decide +kernel
theorem tw_831 : lw_tbl[831]? = some (Cond.selects "ShiftedShapesModel" yX7_mode yX7_mode) := by decide +kernel
theorem tw_836 : lw_tbl[836]? = some (Cond.code yX7_undo cX7_undo 1 (some .int)) := by decide +kernel
theorem tw_834 : lw_tbl[834]? = some (Cond.instanceMethod yX7_undo) := by decide +kernel
theorem tw_835 : lw_tbl[835]? = some (Cond.selects "ShiftedShapesModel" yX7_undo yX7_undo) := by decide +kernel
theorem tw_862 : lw_tbl[862]? = some (Cond.code yX7_standsAt cX7_standsAt 3 (some .int)) := by decide +kernel
theorem tw_861 : lw_tbl[861]? = some (Cond.instanceMethod yX7_standsAt) := by decide +kernel
theorem tw_60 : lw_tbl[60]? = some (Cond.selects "ShiftedShapesModel" yX7_standsAt yX7_standsAt) := by decide +kernel
theorem tw_858 : lw_tbl[858]? = some (Cond.code yX7_metBy cX7_metBy 8 (some .int)) := by decide +kernel
theorem tw_857 : lw_tbl[857]? = some (Cond.instanceMethod yX7_metBy) := by decide +kernel
theorem tw_59 : lw_tbl[59]? = some (Cond.selects "ShiftedShapesModel" yX7_metBy yX7_metBy) := by decide +kernel
theorem tw_854 : lw_tbl[854]? = some (Cond.code yX7_firstPitch cX7_firstPitch 1 (some .int)) := by decide +kernel
theorem tw_853 : lw_tbl[853]? = some (Cond.instanceMethod yX7_firstPitch) := by decide +kernel
theorem tw_58 : lw_tbl[58]? = some (Cond.selects "ShiftedShapesModel" yX7_firstPitch yX7_firstPitch) := by decide +kernel
theorem tw_847 : lw_tbl[847]? = some (Cond.code yX7_lays cX7_lays 7 none) := by decide +kernel
theorem tw_846 : lw_tbl[846]? = some (Cond.instanceMethod yX7_lays) := by decide +kernel
theorem tw_57 : lw_tbl[57]? = some (Cond.selects "ShiftedShapesModel" yX7_lays yX7_lays) := by decide +kernel
theorem tw_885 : lw_tbl[885]? = some (Cond.code yX7_looksAt cX7_looksAt 5 none) := by decide +kernel
theorem tw_884 : lw_tbl[884]? = some (Cond.instanceMethod yX7_looksAt) := by decide +kernel
theorem tw_63 : lw_tbl[63]? = some (Cond.selects "ShiftedShapesModel" yX7_looksAt yX7_looksAt) := by decide +kernel
theorem tw_889 : lw_tbl[889]? = some (Cond.code yX7_gainOf cX7_gainOf 2 (some .int)) := by decide +kernel
theorem tw_888 : lw_tbl[888]? = some (Cond.instanceMethod yX7_gainOf) := by decide +kernel
theorem tw_64 : lw_tbl[64]? = some (Cond.selects "ShiftedShapesModel" yX7_gainOf yX7_gainOf) := by decide +kernel
theorem tw_881 : lw_tbl[881]? = some (Cond.code yX7_isNew cX7_isNew 3 (some .boolean)) := by decide +kernel
theorem tw_880 : lw_tbl[880]? = some (Cond.instanceMethod yX7_isNew) := by decide +kernel
theorem tw_62 : lw_tbl[62]? = some (Cond.selects "ShiftedShapesModel" yX7_isNew yX7_isNew) := by decide +kernel
theorem tw_874 : lw_tbl[874]? = some (Cond.code yX7_findsShapes cX7_findsShapes 4 none) := by decide +kernel
theorem tw_873 : lw_tbl[873]? = some (Cond.instanceMethod yX7_findsShapes) := by decide +kernel
theorem tw_61 : lw_tbl[61]? = some (Cond.selects "ShiftedShapesModel" yX7_findsShapes yX7_findsShapes) := by decide +kernel
theorem tw_901 : lw_tbl[901]? = some (Cond.code yX7_findsBest cX7_findsBest 5 none) := by decide +kernel
theorem tw_900 : lw_tbl[900]? = some (Cond.instanceMethod yX7_findsBest) := by decide +kernel
theorem tw_65 : lw_tbl[65]? = some (Cond.selects "ShiftedShapesModel" yX7_findsBest yX7_findsBest) := by decide +kernel
theorem tw_843 : lw_tbl[843]? = some (Cond.code yX7_allOf cX7_allOf 1 (some .int)) := by decide +kernel
theorem tw_842 : lw_tbl[842]? = some (Cond.static yX7_allOf) := by decide +kernel
theorem tw_840 : lw_tbl[840]? = some (Cond.code yX7_largest cX7_largest 3 (some .int)) := by decide +kernel
theorem tw_838 : lw_tbl[838]? = some (Cond.instanceMethod yX7_largest) := by decide +kernel
theorem tw_839 : lw_tbl[839]? = some (Cond.selects "ShiftedShapesModel" yX7_largest yX7_largest) := by decide +kernel
theorem tw_866 : lw_tbl[866]? = some (Cond.code yX7_meets cX7_meets 4 (some .int)) := by decide +kernel
theorem tw_864 : lw_tbl[864]? = some (Cond.instanceMethod yX7_meets) := by decide +kernel
theorem tw_865 : lw_tbl[865]? = some (Cond.selects "ShiftedShapesModel" yX7_meets yX7_meets) := by decide +kernel
theorem tw_870 : lw_tbl[870]? = some (Cond.code yX7_shape cX7_shape 4 (some .int)) := by decide +kernel
theorem tw_868 : lw_tbl[868]? = some (Cond.instanceMethod yX7_shape) := by decide +kernel
theorem tw_869 : lw_tbl[869]? = some (Cond.selects "ShiftedShapesModel" yX7_shape yX7_shape) := by decide +kernel
theorem tw_893 : lw_tbl[893]? = some (Cond.code yX7_place cX7_place 5 (some .int)) := by decide +kernel
theorem tw_891 : lw_tbl[891]? = some (Cond.instanceMethod yX7_place) := by decide +kernel
theorem tw_892 : lw_tbl[892]? = some (Cond.selects "ShiftedShapesModel" yX7_place yX7_place) := by decide +kernel
theorem tw_897 : lw_tbl[897]? = some (Cond.code yX7_best cX7_best 2 (some .int)) := by decide +kernel
theorem tw_895 : lw_tbl[895]? = some (Cond.instanceMethod yX7_best) := by decide +kernel
theorem tw_896 : lw_tbl[896]? = some (Cond.selects "ShiftedShapesModel" yX7_best yX7_best) := by decide +kernel
theorem tw_909 : lw_tbl[909]? = some (Cond.code yX7_isParted cX7_isParted 2 none) := by decide +kernel
theorem tw_908 : lw_tbl[908]? = some (Cond.instanceMethod yX7_isParted) := by decide +kernel
theorem tw_66 : lw_tbl[66]? = some (Cond.selects "ShiftedShapesModel" yX7_isParted yX7_isParted) := by decide +kernel
theorem tw_905 : lw_tbl[905]? = some (Cond.code yX7_parted cX7_parted 3 (some .int)) := by decide +kernel
theorem tw_903 : lw_tbl[903]? = some (Cond.instanceMethod yX7_parted) := by decide +kernel
theorem tw_904 : lw_tbl[904]? = some (Cond.selects "ShiftedShapesModel" yX7_parted yX7_parted) := by decide +kernel
theorem tw_913 : lw_tbl[913]? = some (Cond.code yX7_parting cX7_parting 2 (some .int)) := by decide +kernel
theorem tw_911 : lw_tbl[911]? = some (Cond.instanceMethod yX7_parting) := by decide +kernel
theorem tw_912 : lw_tbl[912]? = some (Cond.selects "ShiftedShapesModel" yX7_parting yX7_parting) := by decide +kernel
theorem tw_921 : lw_tbl[921]? = some (Cond.code yX7_fewest cX7_fewest 6 (some .int)) := by decide +kernel
theorem tw_920 : lw_tbl[920]? = some (Cond.instanceMethod yX7_fewest) := by decide +kernel
theorem tw_67 : lw_tbl[67]? = some (Cond.selects "ShiftedShapesModel" yX7_fewest yX7_fewest) := by decide +kernel
theorem tw_917 : lw_tbl[917]? = some (Cond.code yX7_shapes cX7_shapes 4 (some .int)) := by decide +kernel
theorem tw_915 : lw_tbl[915]? = some (Cond.instanceMethod yX7_shapes) := by decide +kernel
theorem tw_916 : lw_tbl[916]? = some (Cond.selects "ShiftedShapesModel" yX7_shapes yX7_shapes) := by decide +kernel
theorem tw_925 : lw_tbl[925]? = some (Cond.code yX7_link cX7_link 6 (some .int)) := by decide +kernel
theorem tw_923 : lw_tbl[923]? = some (Cond.instanceMethod yX7_link) := by decide +kernel
theorem tw_924 : lw_tbl[924]? = some (Cond.selects "ShiftedShapesModel" yX7_link yX7_link) := by decide +kernel
theorem tw_929 : lw_tbl[929]? = some (Cond.code yX7_better cX7_better 8 (some .int)) := by decide +kernel
theorem tw_927 : lw_tbl[927]? = some (Cond.instanceMethod yX7_better) := by decide +kernel
theorem tw_928 : lw_tbl[928]? = some (Cond.selects "ShiftedShapesModel" yX7_better yX7_better) := by decide +kernel
theorem tw_940 : lw_tbl[940]? = some (Cond.code yX7_happens cX7_happens 5 none) := by decide +kernel
theorem tw_939 : lw_tbl[939]? = some (Cond.instanceMethod yX7_happens) := by decide +kernel
theorem tw_68 : lw_tbl[68]? = some (Cond.selects "ShiftedShapesModel" yX7_happens yX7_happens) := by decide +kernel
theorem tw_933 : lw_tbl[933]? = some (Cond.code yX7_day cX7_day 7 (some .int)) := by decide +kernel
theorem tw_931 : lw_tbl[931]? = some (Cond.instanceMethod yX7_day) := by decide +kernel
theorem tw_932 : lw_tbl[932]? = some (Cond.selects "ShiftedShapesModel" yX7_day yX7_day) := by decide +kernel
theorem tw_944 : lw_tbl[944]? = some (Cond.code yX7_keep cX7_keep 1 (some .int)) := by decide +kernel
theorem tw_942 : lw_tbl[942]? = some (Cond.instanceMethod yX7_keep) := by decide +kernel
theorem tw_943 : lw_tbl[943]? = some (Cond.selects "ShiftedShapesModel" yX7_keep yX7_keep) := by decide +kernel
theorem tw_948 : lw_tbl[948]? = some (Cond.code yX7_back cX7_back 1 (some .int)) := by decide +kernel
theorem tw_946 : lw_tbl[946]? = some (Cond.instanceMethod yX7_back) := by decide +kernel
theorem tw_947 : lw_tbl[947]? = some (Cond.selects "ShiftedShapesModel" yX7_back yX7_back) := by decide +kernel
theorem tw_952 : lw_tbl[952]? = some (Cond.code yX7_count cX7_count 2 (some .int)) := by decide +kernel
theorem tw_950 : lw_tbl[950]? = some (Cond.instanceMethod yX7_count) := by decide +kernel
theorem tw_951 : lw_tbl[951]? = some (Cond.selects "ShiftedShapesModel" yX7_count yX7_count) := by decide +kernel
theorem tw_545 : lw_tbl[545]? = some (Cond.code yJ6_bitCount_0f7a4 cJ6_bitCount_0f7a4 1 (some .int)) := by decide +kernel
theorem tw_81 : lw_tbl[81]? = some (Cond.initialized "java/lang/Integer") := by decide +kernel
theorem tw_544 : lw_tbl[544]? = some (Cond.static yJ6_bitCount_0f7a4) := by decide +kernel
theorem tw_482 : lw_tbl[482]? = some (Cond.code yJ9_floorMod_7cf53 cJ9_floorMod_7cf53 3 (some .int)) := by decide +kernel
theorem tw_74 : lw_tbl[74]? = some (Cond.initialized "java/lang/Math") := by decide +kernel
theorem tw_481 : lw_tbl[481]? = some (Cond.static yJ9_floorMod_7cf53) := by decide +kernel
theorem tw_138 : lw_tbl[138]? = some (Cond.code Lib.Math.max.name Lib.Math.max.code 2 (some .int)) := by decide +kernel
theorem tw_137 : lw_tbl[137]? = some (Cond.static Lib.Math.max.name) := by decide +kernel
theorem tw_465 : lw_tbl[465]? = some (Cond.code yJ7_fill_53178 cJ7_fill_53178 4 none) := by decide +kernel
theorem tw_80 : lw_tbl[80]? = some (Cond.initialized "java/util/Arrays") := by decide +kernel
theorem tw_464 : lw_tbl[464]? = some (Cond.static yJ7_fill_53178) := by decide +kernel
theorem tw_84 : lw_tbl[84]? = some (Cond.methodLink "ShiftedShapesLaw" 9 yX6_init) := by decide +kernel
theorem tw_87 : lw_tbl[87]? = some (Cond.methodLink "ShiftedShapes" 3 objectInit) := by decide +kernel
theorem tw_92 : lw_tbl[92]? = some (Cond.methodLinkNest "ShiftedShapes" 11 yX4_init "ShiftedShapes") := by decide +kernel
theorem tw_95 : lw_tbl[95]? = some (Cond.methodLink "ShiftedShapes$Script" 3 objectInit) := by decide +kernel
theorem tw_110 : lw_tbl[110]? = some (Cond.methodLinkNest "ShiftedShapes" 18 yX2_init "ShiftedShapes") := by decide +kernel
theorem tw_113 : lw_tbl[113]? = some (Cond.methodLink "ShiftedShapes$Piece" 3 objectInit) := by decide +kernel
theorem tw_132 : lw_tbl[132]? = some (Cond.methodLinkNest "ShiftedShapes" 28 yX3_init "ShiftedShapes") := by decide +kernel
theorem tw_135 : lw_tbl[135]? = some (Cond.methodLink "ShiftedShapes$Pile" 1 objectInit) := by decide +kernel
theorem tw_136 : lw_tbl[136]? = some (Cond.methodLink "ShiftedShapes$Pile" 7 Lib.Math.max.name) := by decide +kernel
theorem tw_141 : lw_tbl[141]? = some (Cond.methodLinkNest "ShiftedShapes$Pile" 21 yX2_init "ShiftedShapes") := by decide +kernel
theorem tw_152 : lw_tbl[152]? = some (Cond.methodLinkNest "ShiftedShapes" 40 yX5_init "ShiftedShapes") := by decide +kernel
theorem tw_155 : lw_tbl[155]? = some (Cond.methodLink "ShiftedShapes$Search" 3 objectInit) := by decide +kernel
theorem tw_205 : lw_tbl[205]? = some (Cond.methodLinkNest "ShiftedShapes" 50 yX1_init "ShiftedShapes") := by decide +kernel
theorem tw_208 : lw_tbl[208]? = some (Cond.methodLink "ShiftedShapes$Parting" 3 objectInit) := by decide +kernel
theorem tw_236 : lw_tbl[236]? = some (Cond.methodLinkNest "ShiftedShapes" 57 yX0_init "ShiftedShapes") := by decide +kernel
theorem tw_239 : lw_tbl[239]? = some (Cond.methodLink "ShiftedShapes$Covering" 3 objectInit) := by decide +kernel
theorem tw_251 : lw_tbl[251]? = some (Cond.methodLink "ShiftedShapes" 69 yX6_codeOf) := by decide +kernel
theorem tw_254 : lw_tbl[254]? = some (Cond.methodLinkNest "ShiftedShapes" 73 yX2_insert "ShiftedShapes") := by decide +kernel
theorem tw_298 : lw_tbl[298]? = some (Cond.methodLink "ShiftedShapesLaw" 13 yX6_write) := by decide +kernel
theorem tw_302 : lw_tbl[302]? = some (Cond.methodLinkNest "ShiftedShapes" 77 yX4_append "ShiftedShapes") := by decide +kernel
theorem tw_306 : lw_tbl[306]? = some (Cond.methodLink "ShiftedShapesLaw" 18 yX6_wipe) := by decide +kernel
theorem tw_310 : lw_tbl[310]? = some (Cond.methodLink "ShiftedShapesLaw" 23 yX6_fault) := by decide +kernel
theorem tw_314 : lw_tbl[314]? = some (Cond.methodLinkNest "ShiftedShapes" 85 yX4_readInto "ShiftedShapes") := by decide +kernel
theorem tw_318 : lw_tbl[318]? = some (Cond.methodLink "ShiftedShapes$Script" 30 yX4_readItem) := by decide +kernel
theorem tw_322 : lw_tbl[322]? = some (Cond.methodLink "ShiftedShapes$Script" 34 yX4_skip) := by decide +kernel
theorem tw_326 : lw_tbl[326]? = some (Cond.methodLink "ShiftedShapes$Script" 38 yX4_readNote) := by decide +kernel
theorem tw_330 : lw_tbl[330]? = some (Cond.methodLink "ShiftedShapes$Script" 44 yX4_readNumber) := by decide +kernel
theorem tw_334 : lw_tbl[334]? = some (Cond.methodLink "ShiftedShapes$Script" 63 yX4_isFigure) := by decide +kernel
theorem tw_338 : lw_tbl[338]? = some (Cond.methodLink "ShiftedShapes$Script" 67 Lib.Math.max.name) := by decide +kernel
theorem tw_339 : lw_tbl[339]? = some (Cond.methodLinkNest "ShiftedShapes$Script" 48 yX6_isWithin "ShiftedShapes") := by decide +kernel
theorem tw_342 : lw_tbl[342]? = some (Cond.methodLinkNest "ShiftedShapes$Script" 52 yX6_codeOf "ShiftedShapes") := by decide +kernel
theorem tw_343 : lw_tbl[343]? = some (Cond.methodLinkNest "ShiftedShapes$Script" 56 yX2_numberOf "ShiftedShapes") := by decide +kernel
theorem tw_347 : lw_tbl[347]? = some (Cond.methodLinkNest "ShiftedShapes$Script" 60 yX2_insert "ShiftedShapes") := by decide +kernel
theorem tw_348 : lw_tbl[348]? = some (Cond.methodLink "ShiftedShapes$Script" 41 yX4_readManner) := by decide +kernel
theorem tw_352 : lw_tbl[352]? = some (Cond.methodLink "ShiftedShapesLaw" 27 yX6_lay) := by decide +kernel
theorem tw_356 : lw_tbl[356]? = some (Cond.methodLinkNest "ShiftedShapes" 92 yX2_copyFrom "ShiftedShapes") := by decide +kernel
theorem tw_360 : lw_tbl[360]? = some (Cond.methodLink "ShiftedShapes$Piece" 19 arraycopyName) := by decide +kernel
theorem tw_363 : lw_tbl[363]? = some (Cond.methodLink "ShiftedShapes" 97 yX6_forgetFindings) := by decide +kernel
theorem tw_367 : lw_tbl[367]? = some (Cond.methodLink "ShiftedShapesLaw" 31 yX6_note) := by decide +kernel
theorem tw_371 : lw_tbl[371]? = some (Cond.methodLink "ShiftedShapes" 100 yX6_isNote) := by decide +kernel
theorem tw_375 : lw_tbl[375]? = some (Cond.methodLinkNest "ShiftedShapes" 103 yX2_timeOf "ShiftedShapes") := by decide +kernel
theorem tw_379 : lw_tbl[379]? = some (Cond.methodLinkNest "ShiftedShapes" 106 yX2_pitchOf "ShiftedShapes") := by decide +kernel
theorem tw_383 : lw_tbl[383]? = some (Cond.methodLink "ShiftedShapesLaw" 36 yX6_put) := by decide +kernel
theorem tw_387 : lw_tbl[387]? = some (Cond.methodLink "ShiftedShapes" 109 yX6_isWithin) := by decide +kernel
theorem tw_388 : lw_tbl[388]? = some (Cond.methodLinkNest "ShiftedShapes" 113 yX2_numberOf "ShiftedShapes") := by decide +kernel
theorem tw_389 : lw_tbl[389]? = some (Cond.methodLink "ShiftedShapes" 116 yX6_beginAct) := by decide +kernel
theorem tw_393 : lw_tbl[393]? = some (Cond.methodLinkNest "ShiftedShapes" 238 yX3_push "ShiftedShapes") := by decide +kernel
theorem tw_397 : lw_tbl[397]? = some (Cond.methodLink "ShiftedShapes$Pile" 26 yX3_dropOldest) := by decide +kernel
theorem tw_401 : lw_tbl[401]? = some (Cond.methodLinkNest "ShiftedShapes$Pile" 29 yX2_copyFrom "ShiftedShapes") := by decide +kernel
theorem tw_402 : lw_tbl[402]? = some (Cond.methodLink "ShiftedShapesLaw" 40 yX6_take) := by decide +kernel
theorem tw_406 : lw_tbl[406]? = some (Cond.methodLinkNest "ShiftedShapes" 119 yX2_remove "ShiftedShapes") := by decide +kernel
theorem tw_410 : lw_tbl[410]? = some (Cond.methodLink "ShiftedShapesLaw" 44 yX6_shift) := by decide +kernel
theorem tw_414 : lw_tbl[414]? = some (Cond.methodLink "ShiftedShapes" 122 yX6_isMove) := by decide +kernel
theorem tw_418 : lw_tbl[418]? = some (Cond.methodLink "ShiftedShapes" 138 yX6_isShift) := by decide +kernel
theorem tw_422 : lw_tbl[422]? = some (Cond.methodLink "ShiftedShapes" 125 yX6_staysWithin) := by decide +kernel
theorem tw_426 : lw_tbl[426]? = some (Cond.methodLink "ShiftedShapesLaw" 49 yX6_shiftAll) := by decide +kernel
theorem tw_430 : lw_tbl[430]? = some (Cond.methodLinkNest "ShiftedShapes" 129 yX2_moveAll "ShiftedShapes") := by decide +kernel
theorem tw_434 : lw_tbl[434]? = some (Cond.methodLink "ShiftedShapesLaw" 53 yX6_mode) := by decide +kernel
theorem tw_438 : lw_tbl[438]? = some (Cond.methodLink "ShiftedShapesLaw" 57 yX6_undo) := by decide +kernel
theorem tw_442 : lw_tbl[442]? = some (Cond.methodLinkNest "ShiftedShapes" 135 yX3_popInto "ShiftedShapes") := by decide +kernel
theorem tw_446 : lw_tbl[446]? = some (Cond.methodLink "ShiftedShapesLaw" 61 yX6_largest) := by decide +kernel
theorem tw_450 : lw_tbl[450]? = some (Cond.methodLink "ShiftedShapes" 141 yX6_wholeSearch) := by decide +kernel
theorem tw_454 : lw_tbl[454]? = some (Cond.methodLinkNest "ShiftedShapes" 167 yX2_allNotes "ShiftedShapes") := by decide +kernel
theorem tw_458 : lw_tbl[458]? = some (Cond.methodLinkNest "ShiftedShapes" 234 yX5_lookOver "ShiftedShapes") := by decide +kernel
theorem tw_462 : lw_tbl[462]? = some (Cond.methodLinkNest "ShiftedShapes$Search" 43 yX2_allNotes "ShiftedShapes") := by decide +kernel
theorem tw_463 : lw_tbl[463]? = some (Cond.methodLink "ShiftedShapes$Search" 50 yJ7_fill_53178) := by decide +kernel
theorem tw_466 : lw_tbl[466]? = some (Cond.methodLinkNest "ShiftedShapes$Search" 59 yX2_timeOf "ShiftedShapes") := by decide +kernel
theorem tw_467 : lw_tbl[467]? = some (Cond.methodLinkNest "ShiftedShapes$Search" 63 yX2_pitchOf "ShiftedShapes") := by decide +kernel
theorem tw_468 : lw_tbl[468]? = some (Cond.methodLink "ShiftedShapes$Search" 66 yX5_has) := by decide +kernel
theorem tw_471 : lw_tbl[471]? = some (Cond.methodLinkNest "ShiftedShapes$Search" 70 yX6_codeOf "ShiftedShapes") := by decide +kernel
theorem tw_472 : lw_tbl[472]? = some (Cond.methodLink "ShiftedShapes$Search" 74 yX5_findLargests) := by decide +kernel
theorem tw_476 : lw_tbl[476]? = some (Cond.methodLink "ShiftedShapes$Search" 83 yX5_enterPair) := by decide +kernel
theorem tw_480 : lw_tbl[480]? = some (Cond.methodLink "ShiftedShapes$Search" 87 yJ9_floorMod_7cf53) := by decide +kernel
theorem tw_483 : lw_tbl[483]? = some (Cond.methodLink "ShiftedShapes$Search" 92 yX5_enter) := by decide +kernel
theorem tw_487 : lw_tbl[487]? = some (Cond.methodLink "ShiftedShapes$Search" 96 yX5_isHeld) := by decide +kernel
theorem tw_490 : lw_tbl[490]? = some (Cond.methodLink "ShiftedShapes$Search" 99 yX5_shiftOf) := by decide +kernel
theorem tw_493 : lw_tbl[493]? = some (Cond.methodLink "ShiftedShapes$Search" 77 yX5_findWideShifts) := by decide +kernel
theorem tw_497 : lw_tbl[497]? = some (Cond.methodLink "ShiftedShapes$Search" 105 yX5_hasTwo) := by decide +kernel
theorem tw_500 : lw_tbl[500]? = some (Cond.methodLink "ShiftedShapes$Search" 80 yX5_findShapes) := by decide +kernel
theorem tw_504 : lw_tbl[504]? = some (Cond.methodLink "ShiftedShapes$Search" 112 yX5_isShape) := by decide +kernel
theorem tw_508 : lw_tbl[508]? = some (Cond.methodLink "ShiftedShapes$Search" 115 yX5_measureShape) := by decide +kernel
theorem tw_512 : lw_tbl[512]? = some (Cond.methodLink "ShiftedShapes$Search" 119 yX5_timePart) := by decide +kernel
theorem tw_515 : lw_tbl[515]? = some (Cond.methodLink "ShiftedShapes$Search" 122 yX5_pitchPart) := by decide +kernel
theorem tw_518 : lw_tbl[518]? = some (Cond.methodLink "ShiftedShapes$Search" 125 yX5_met) := by decide +kernel
theorem tw_522 : lw_tbl[522]? = some (Cond.methodLink "ShiftedShapes$Search" 129 yX5_numberAt) := by decide +kernel
theorem tw_526 : lw_tbl[526]? = some (Cond.methodLinkNest "ShiftedShapes" 145 yX5_largestOf "ShiftedShapes") := by decide +kernel
theorem tw_530 : lw_tbl[530]? = some (Cond.methodLink "ShiftedShapesLaw" 65 yX6_meets) := by decide +kernel
theorem tw_534 : lw_tbl[534]? = some (Cond.methodLinkNest "ShiftedShapes" 148 yX5_met "ShiftedShapes") := by decide +kernel
theorem tw_535 : lw_tbl[535]? = some (Cond.methodLink "ShiftedShapesLaw" 69 yX6_shape) := by decide +kernel
theorem tw_539 : lw_tbl[539]? = some (Cond.methodLinkNest "ShiftedShapes" 164 yX5_gainOf "ShiftedShapes") := by decide +kernel
theorem tw_543 : lw_tbl[543]? = some (Cond.methodLink "ShiftedShapes$Search" 132 yJ6_bitCount_0f7a4) := by decide +kernel
theorem tw_549 : lw_tbl[549]? = some (Cond.methodLink "ShiftedShapesLaw" 73 yX6_place) := by decide +kernel
theorem tw_553 : lw_tbl[553]? = some (Cond.methodLinkNest "ShiftedShapes" 171 yX5_placesOf "ShiftedShapes") := by decide +kernel
theorem tw_557 : lw_tbl[557]? = some (Cond.methodLinkNest "ShiftedShapes" 174 yX5_placeOf "ShiftedShapes") := by decide +kernel
theorem tw_561 : lw_tbl[561]? = some (Cond.methodLink "ShiftedShapesLaw" 77 yX6_best) := by decide +kernel
theorem tw_565 : lw_tbl[565]? = some (Cond.methodLinkNest "ShiftedShapes" 177 yX5_bestShape "ShiftedShapes") := by decide +kernel
theorem tw_569 : lw_tbl[569]? = some (Cond.methodLink "ShiftedShapes$Search" 137 yX5_isBetter) := by decide +kernel
theorem tw_573 : lw_tbl[573]? = some (Cond.methodLink "ShiftedShapes$Search" 140 yX5_gainOf) := by decide +kernel
theorem tw_574 : lw_tbl[574]? = some (Cond.methodLink "ShiftedShapesLaw" 81 yX6_parted) := by decide +kernel
theorem tw_578 : lw_tbl[578]? = some (Cond.methodLinkNest "ShiftedShapes" 180 yX1_takeApart "ShiftedShapes") := by decide +kernel
theorem tw_582 : lw_tbl[582]? = some (Cond.methodLinkNest "ShiftedShapes$Parting" 28 yX2_allNotes "ShiftedShapes") := by decide +kernel
theorem tw_583 : lw_tbl[583]? = some (Cond.methodLinkNest "ShiftedShapes$Parting" 37 yX5_lookOver "ShiftedShapes") := by decide +kernel
theorem tw_584 : lw_tbl[584]? = some (Cond.methodLinkNest "ShiftedShapes$Parting" 43 yX5_bestShape "ShiftedShapes") := by decide +kernel
theorem tw_585 : lw_tbl[585]? = some (Cond.methodLinkNest "ShiftedShapes$Parting" 46 yX5_gainOf "ShiftedShapes") := by decide +kernel
theorem tw_586 : lw_tbl[586]? = some (Cond.methodLink "ShiftedShapes$Parting" 50 yX1_setAside) := by decide +kernel
theorem tw_590 : lw_tbl[590]? = some (Cond.methodLink "ShiftedShapes$Parting" 54 yJ6_bitCount_0f7a4) := by decide +kernel
theorem tw_591 : lw_tbl[591]? = some (Cond.methodLink "ShiftedShapesLaw" 85 yX6_parting) := by decide +kernel
theorem tw_595 : lw_tbl[595]? = some (Cond.methodLink "ShiftedShapesLaw" 89 yX6_shapes) := by decide +kernel
theorem tw_599 : lw_tbl[599]? = some (Cond.methodLinkNest "ShiftedShapes" 200 yX0_fewestOf "ShiftedShapes") := by decide +kernel
theorem tw_603 : lw_tbl[603]? = some (Cond.methodLink "ShiftedShapes$Covering" 15 yX0_gather) := by decide +kernel
theorem tw_607 : lw_tbl[607]? = some (Cond.methodLink "ShiftedShapes$Covering" 36 yX0_isWithinAnother) := by decide +kernel
theorem tw_610 : lw_tbl[610]? = some (Cond.methodLinkNest "ShiftedShapes$Covering" 19 yX5_covered "ShiftedShapes") := by decide +kernel
theorem tw_614 : lw_tbl[614]? = some (Cond.methodLink "ShiftedShapes$Covering" 29 yX0_isReached) := by decide +kernel
theorem tw_617 : lw_tbl[617]? = some (Cond.methodLinkNest "ShiftedShapes" 204 yX5_covered "ShiftedShapes") := by decide +kernel
theorem tw_618 : lw_tbl[618]? = some (Cond.methodLink "ShiftedShapesLaw" 93 yX6_link) := by decide +kernel
theorem tw_622 : lw_tbl[622]? = some (Cond.methodLink "ShiftedShapes" 207 yJ9_floorMod_7cf53) := by decide +kernel
theorem tw_623 : lw_tbl[623]? = some (Cond.methodLink "ShiftedShapes" 212 yJ6_bitCount_0f7a4) := by decide +kernel
theorem tw_624 : lw_tbl[624]? = some (Cond.methodLink "ShiftedShapesLaw" 97 yX6_better) := by decide +kernel
theorem tw_628 : lw_tbl[628]? = some (Cond.methodLink "ShiftedShapes" 221 yX6_findBetter) := by decide +kernel
theorem tw_632 : lw_tbl[632]? = some (Cond.methodLink "ShiftedShapesLaw" 101 yX6_day) := by decide +kernel
theorem tw_636 : lw_tbl[636]? = some (Cond.methodLink "ShiftedShapes" 230 yX6_drawOnce) := by decide +kernel
theorem tw_643 : lw_tbl[643]? = some (Cond.methodLink "ShiftedShapesLaw" 105 yX6_keep) := by decide +kernel
theorem tw_647 : lw_tbl[647]? = some (Cond.methodLink "ShiftedShapesLaw" 109 yX6_back) := by decide +kernel
theorem tw_651 : lw_tbl[651]? = some (Cond.methodLink "ShiftedShapesLaw" 113 yX6_count) := by decide +kernel
theorem tw_657 : lw_tbl[657]? = some (Cond.methodLink "ShiftedShapesLaw" 12 yX7_init) := by decide +kernel
theorem tw_660 : lw_tbl[660]? = some (Cond.methodLink "ShiftedShapesModel" 1 objectInit) := by decide +kernel
theorem tw_661 : lw_tbl[661]? = some (Cond.methodLink "ShiftedShapesModel" 46 yX7_begins) := by decide +kernel
theorem tw_665 : lw_tbl[665]? = some (Cond.methodLink "ShiftedShapesModel" 53 yX7_puts) := by decide +kernel
theorem tw_668 : lw_tbl[668]? = some (Cond.methodLink "ShiftedShapesModel" 49 yX7_copies) := by decide +kernel
theorem tw_753 : lw_tbl[753]? = some (Cond.methodLink "ShiftedShapesLaw" 17 yX7_write) := by decide +kernel
theorem tw_757 : lw_tbl[757]? = some (Cond.methodLink "ShiftedShapesModel" 68 yX7_in) := by decide +kernel
theorem tw_760 : lw_tbl[760]? = some (Cond.methodLink "ShiftedShapesLaw" 22 yX7_wipe) := by decide +kernel
theorem tw_764 : lw_tbl[764]? = some (Cond.methodLink "ShiftedShapesLaw" 26 yX7_fault) := by decide +kernel
theorem tw_768 : lw_tbl[768]? = some (Cond.methodLink "ShiftedShapesModel" 83 yX7_reading) := by decide +kernel
theorem tw_772 : lw_tbl[772]? = some (Cond.methodLink "ShiftedShapesModel" 79 yX7_readsItem) := by decide +kernel
theorem tw_776 : lw_tbl[776]? = some (Cond.methodLink "ShiftedShapesModel" 64 yX7_here) := by decide +kernel
theorem tw_780 : lw_tbl[780]? = some (Cond.methodLink "ShiftedShapesModel" 72 yX7_number) := by decide +kernel
theorem tw_784 : lw_tbl[784]? = some (Cond.methodLink "ShiftedShapesModel" 76 yX7_numberOf) := by decide +kernel
theorem tw_787 : lw_tbl[787]? = some (Cond.methodLink "ShiftedShapesLaw" 30 yX7_lay) := by decide +kernel
theorem tw_791 : lw_tbl[791]? = some (Cond.methodLink "ShiftedShapesLaw" 35 yX7_note) := by decide +kernel
theorem tw_795 : lw_tbl[795]? = some (Cond.methodLink "ShiftedShapesModel" 92 yX7_isNote) := by decide +kernel
theorem tw_799 : lw_tbl[799]? = some (Cond.methodLink "ShiftedShapesLaw" 39 yX7_put) := by decide +kernel
theorem tw_803 : lw_tbl[803]? = some (Cond.methodLink "ShiftedShapesModel" 96 yX7_isThere) := by decide +kernel
theorem tw_806 : lw_tbl[806]? = some (Cond.methodLink "ShiftedShapesModel" 100 yX7_notes) := by decide +kernel
theorem tw_810 : lw_tbl[810]? = some (Cond.methodLink "ShiftedShapesLaw" 43 yX7_take) := by decide +kernel
theorem tw_814 : lw_tbl[814]? = some (Cond.methodLink "ShiftedShapesModel" 103 yX7_leaves) := by decide +kernel
theorem tw_817 : lw_tbl[817]? = some (Cond.methodLink "ShiftedShapesLaw" 48 yX7_shift) := by decide +kernel
theorem tw_821 : lw_tbl[821]? = some (Cond.methodLink "ShiftedShapesModel" 107 yX7_isShift) := by decide +kernel
theorem tw_825 : lw_tbl[825]? = some (Cond.methodLink "ShiftedShapesLaw" 52 yX7_shiftAll) := by decide +kernel
theorem tw_829 : lw_tbl[829]? = some (Cond.methodLink "ShiftedShapesLaw" 56 yX7_mode) := by decide +kernel
theorem tw_833 : lw_tbl[833]? = some (Cond.methodLink "ShiftedShapesLaw" 60 yX7_undo) := by decide +kernel
theorem tw_837 : lw_tbl[837]? = some (Cond.methodLink "ShiftedShapesLaw" 64 yX7_largest) := by decide +kernel
theorem tw_841 : lw_tbl[841]? = some (Cond.methodLink "ShiftedShapesModel" 166 yX7_allOf) := by decide +kernel
theorem tw_844 : lw_tbl[844]? = some (Cond.methodLink "ShiftedShapesModel" 139 yX7_lays) := by decide +kernel
theorem tw_848 : lw_tbl[848]? = some (Cond.methodLink "ShiftedShapesModel" 116 yX7_has) := by decide +kernel
theorem tw_851 : lw_tbl[851]? = some (Cond.methodLink "ShiftedShapesModel" 119 yX7_firstPitch) := by decide +kernel
theorem tw_855 : lw_tbl[855]? = some (Cond.methodLink "ShiftedShapesModel" 122 yX7_metBy) := by decide +kernel
theorem tw_859 : lw_tbl[859]? = some (Cond.methodLink "ShiftedShapesModel" 113 yX7_standsAt) := by decide +kernel
theorem tw_863 : lw_tbl[863]? = some (Cond.methodLink "ShiftedShapesLaw" 68 yX7_meets) := by decide +kernel
theorem tw_867 : lw_tbl[867]? = some (Cond.methodLink "ShiftedShapesLaw" 72 yX7_shape) := by decide +kernel
theorem tw_871 : lw_tbl[871]? = some (Cond.methodLink "ShiftedShapesModel" 145 yX7_findsShapes) := by decide +kernel
theorem tw_875 : lw_tbl[875]? = some (Cond.methodLink "ShiftedShapesModel" 132 yX7_bits) := by decide +kernel
theorem tw_878 : lw_tbl[878]? = some (Cond.methodLink "ShiftedShapesModel" 142 yX7_isNew) := by decide +kernel
theorem tw_882 : lw_tbl[882]? = some (Cond.methodLink "ShiftedShapesModel" 157 yX7_looksAt) := by decide +kernel
theorem tw_886 : lw_tbl[886]? = some (Cond.methodLink "ShiftedShapesModel" 160 yX7_gainOf) := by decide +kernel
theorem tw_890 : lw_tbl[890]? = some (Cond.methodLink "ShiftedShapesLaw" 76 yX7_place) := by decide +kernel
theorem tw_894 : lw_tbl[894]? = some (Cond.methodLink "ShiftedShapesLaw" 80 yX7_best) := by decide +kernel
theorem tw_898 : lw_tbl[898]? = some (Cond.methodLink "ShiftedShapesModel" 170 yX7_findsBest) := by decide +kernel
theorem tw_902 : lw_tbl[902]? = some (Cond.methodLink "ShiftedShapesLaw" 84 yX7_parted) := by decide +kernel
theorem tw_906 : lw_tbl[906]? = some (Cond.methodLink "ShiftedShapesModel" 182 yX7_isParted) := by decide +kernel
theorem tw_910 : lw_tbl[910]? = some (Cond.methodLink "ShiftedShapesLaw" 88 yX7_parting) := by decide +kernel
theorem tw_914 : lw_tbl[914]? = some (Cond.methodLink "ShiftedShapesLaw" 92 yX7_shapes) := by decide +kernel
theorem tw_918 : lw_tbl[918]? = some (Cond.methodLink "ShiftedShapesModel" 186 yX7_fewest) := by decide +kernel
theorem tw_922 : lw_tbl[922]? = some (Cond.methodLink "ShiftedShapesLaw" 96 yX7_link) := by decide +kernel
theorem tw_926 : lw_tbl[926]? = some (Cond.methodLink "ShiftedShapesLaw" 100 yX7_better) := by decide +kernel
theorem tw_930 : lw_tbl[930]? = some (Cond.methodLink "ShiftedShapesLaw" 104 yX7_day) := by decide +kernel
theorem tw_937 : lw_tbl[937]? = some (Cond.methodLink "ShiftedShapesModel" 195 yX7_happens) := by decide +kernel
theorem tw_941 : lw_tbl[941]? = some (Cond.methodLink "ShiftedShapesLaw" 108 yX7_keep) := by decide +kernel
theorem tw_945 : lw_tbl[945]? = some (Cond.methodLink "ShiftedShapesLaw" 112 yX7_back) := by decide +kernel
theorem tw_949 : lw_tbl[949]? = some (Cond.methodLink "ShiftedShapesLaw" 116 yX7_count) := by decide +kernel
theorem tw_69 : lw_tbl[69]? = some (Cond.initialized "ShiftedShapesLaw") := by decide +kernel
theorem tw_79 : lw_tbl[79]? = some (Cond.initialized "java/lang/System") := by decide +kernel
theorem tw_82 : lw_tbl[82]? = some (Cond.classLink "ShiftedShapesLaw" 7 "ShiftedShapes") := by decide +kernel
theorem tw_83 : lw_tbl[83]? = some (Cond.instantiable "ShiftedShapes" 13) := by decide +kernel
theorem tw_90 : lw_tbl[90]? = some (Cond.classLink "ShiftedShapes" 9 "ShiftedShapes$Script") := by decide +kernel
theorem tw_91 : lw_tbl[91]? = some (Cond.instantiable "ShiftedShapes$Script" 3) := by decide +kernel
theorem tw_108 : lw_tbl[108]? = some (Cond.classLink "ShiftedShapes" 16 "ShiftedShapes$Piece") := by decide +kernel
theorem tw_109 : lw_tbl[109]? = some (Cond.instantiable "ShiftedShapes$Piece" 3) := by decide +kernel
theorem tw_130 : lw_tbl[130]? = some (Cond.classLink "ShiftedShapes" 26 "ShiftedShapes$Pile") := by decide +kernel
theorem tw_131 : lw_tbl[131]? = some (Cond.instantiable "ShiftedShapes$Pile" 2) := by decide +kernel
theorem tw_139 : lw_tbl[139]? = some (Cond.classLink "ShiftedShapes$Pile" 13 "ShiftedShapes$Piece") := by decide +kernel
theorem tw_150 : lw_tbl[150]? = some (Cond.classLink "ShiftedShapes" 38 "ShiftedShapes$Search") := by decide +kernel
theorem tw_151 : lw_tbl[151]? = some (Cond.instantiable "ShiftedShapes$Search" 12) := by decide +kernel
theorem tw_203 : lw_tbl[203]? = some (Cond.classLink "ShiftedShapes" 48 "ShiftedShapes$Parting") := by decide +kernel
theorem tw_204 : lw_tbl[204]? = some (Cond.instantiable "ShiftedShapes$Parting" 6) := by decide +kernel
theorem tw_234 : lw_tbl[234]? = some (Cond.classLink "ShiftedShapes" 55 "ShiftedShapes$Covering") := by decide +kernel
theorem tw_235 : lw_tbl[235]? = some (Cond.instantiable "ShiftedShapes$Covering" 2) := by decide +kernel
theorem tw_546 : lw_tbl[546]? = some (Cond.constant "java/lang/Integer" 265 (1431655765)) := by decide +kernel
theorem tw_547 : lw_tbl[547]? = some (Cond.constant "java/lang/Integer" 266 (858993459)) := by decide +kernel
theorem tw_548 : lw_tbl[548]? = some (Cond.constant "java/lang/Integer" 267 (252645135)) := by decide +kernel
theorem tw_640 : lw_tbl[640]? = some (Cond.constantLong "ShiftedShapes" 244 (7919)) := by decide +kernel
theorem tw_641 : lw_tbl[641]? = some (Cond.constantLong "ShiftedShapes" 246 (6151)) := by decide +kernel
theorem tw_642 : lw_tbl[642]? = some (Cond.constantLong "ShiftedShapes" 248 (65521)) := by decide +kernel
theorem tw_655 : lw_tbl[655]? = some (Cond.classLink "ShiftedShapesLaw" 10 "ShiftedShapesModel") := by decide +kernel
theorem tw_656 : lw_tbl[656]? = some (Cond.instantiable "ShiftedShapesModel" 27) := by decide +kernel
theorem tw_934 : lw_tbl[934]? = some (Cond.constantLong "ShiftedShapesModel" 189 (7919)) := by decide +kernel
theorem tw_935 : lw_tbl[935]? = some (Cond.constantLong "ShiftedShapesModel" 191 (6151)) := by decide +kernel
theorem tw_936 : lw_tbl[936]? = some (Cond.constantLong "ShiftedShapesModel" 193 (65521)) := by decide +kernel
theorem tw_107 : lw_tbl[107]? = some (Cond.arrayClass .int) := by decide +kernel
theorem tw_88 : lw_tbl[88]? = some (Cond.instanceMethod objectInit) := by decide +kernel
theorem tw_89 : lw_tbl[89]? = some (Cond.code objectInit ⟨#[0xb1]⟩ 1 none) := by decide +kernel
theorem tw_362 : lw_tbl[362]? = some (Cond.native arraycopyName) := by decide +kernel
theorem tw_361 : lw_tbl[361]? = some (Cond.static arraycopyName) := by decide +kernel
theorem tw_140 : lw_tbl[140]? = some (Cond.arrayOver (.object "ShiftedShapes$Piece")) := by decide +kernel
theorem iwX0 : ∀ w ∈ u_ws RX0 TX0 2, w ∈ xWS := List.forall_mem_cons.mpr ⟨(xws tw_242 rfl), List.forall_mem_cons.mpr ⟨(xws tw_244 rfl), (fun _ h => absurd h List.not_mem_nil)⟩⟩
theorem iwX1 : ∀ w ∈ u_ws RX1 TX1 6, w ∈ xWS := List.forall_mem_cons.mpr ⟨(xws tw_221 rfl), List.forall_mem_cons.mpr ⟨(xws tw_223 rfl), List.forall_mem_cons.mpr ⟨(xws tw_225 rfl), List.forall_mem_cons.mpr ⟨(xws tw_227 rfl), List.forall_mem_cons.mpr ⟨(xws tw_229 rfl), List.forall_mem_cons.mpr ⟨(xws tw_231 rfl), (fun _ h => absurd h List.not_mem_nil)⟩⟩⟩⟩⟩⟩
theorem iwX2 : ∀ w ∈ u_ws RX2 TX2 3, w ∈ xWS := List.forall_mem_cons.mpr ⟨(xws tw_123 rfl), List.forall_mem_cons.mpr ⟨(xws tw_125 rfl), List.forall_mem_cons.mpr ⟨(xws tw_127 rfl), (fun _ h => absurd h List.not_mem_nil)⟩⟩⟩
theorem iwX3 : ∀ w ∈ u_ws RX3 TX3 2, w ∈ xWS := List.forall_mem_cons.mpr ⟨(xws tw_145 rfl), List.forall_mem_cons.mpr ⟨(xws tw_147 rfl), (fun _ h => absurd h List.not_mem_nil)⟩⟩
theorem iwX4 : ∀ w ∈ u_ws RX4 TX4 3, w ∈ xWS := List.forall_mem_cons.mpr ⟨(xws tw_100 rfl), List.forall_mem_cons.mpr ⟨(xws tw_102 rfl), List.forall_mem_cons.mpr ⟨(xws tw_104 rfl), (fun _ h => absurd h List.not_mem_nil)⟩⟩⟩
theorem iwX5 : ∀ w ∈ u_ws RX5 TX5 12, w ∈ xWS := List.forall_mem_cons.mpr ⟨(xws tw_178 rfl), List.forall_mem_cons.mpr ⟨(xws tw_180 rfl), List.forall_mem_cons.mpr ⟨(xws tw_182 rfl), List.forall_mem_cons.mpr ⟨(xws tw_184 rfl), List.forall_mem_cons.mpr ⟨(xws tw_186 rfl), List.forall_mem_cons.mpr ⟨(xws tw_188 rfl), List.forall_mem_cons.mpr ⟨(xws tw_190 rfl), List.forall_mem_cons.mpr ⟨(xws tw_192 rfl), List.forall_mem_cons.mpr ⟨(xws tw_194 rfl), List.forall_mem_cons.mpr ⟨(xws tw_196 rfl), List.forall_mem_cons.mpr ⟨(xws tw_198 rfl), List.forall_mem_cons.mpr ⟨(xws tw_200 rfl), (fun _ h => absurd h List.not_mem_nil)⟩⟩⟩⟩⟩⟩⟩⟩⟩⟩⟩⟩
theorem iwX6 : ∀ w ∈ u_ws RX6 TX6 13, w ∈ xWS := List.forall_mem_cons.mpr ⟨(xws tw_271 rfl), List.forall_mem_cons.mpr ⟨(xws tw_273 rfl), List.forall_mem_cons.mpr ⟨(xws tw_275 rfl), List.forall_mem_cons.mpr ⟨(xws tw_277 rfl), List.forall_mem_cons.mpr ⟨(xws tw_279 rfl), List.forall_mem_cons.mpr ⟨(xws tw_281 rfl), List.forall_mem_cons.mpr ⟨(xws tw_283 rfl), List.forall_mem_cons.mpr ⟨(xws tw_285 rfl), List.forall_mem_cons.mpr ⟨(xws tw_287 rfl), List.forall_mem_cons.mpr ⟨(xws tw_289 rfl), List.forall_mem_cons.mpr ⟨(xws tw_291 rfl), List.forall_mem_cons.mpr ⟨(xws tw_293 rfl), List.forall_mem_cons.mpr ⟨(xws tw_295 rfl), (fun _ h => absurd h List.not_mem_nil)⟩⟩⟩⟩⟩⟩⟩⟩⟩⟩⟩⟩⟩
theorem iwX7 : ∀ w ∈ u_ws RX7 TX7 27, w ∈ xWS := List.forall_mem_cons.mpr ⟨(xws tw_698 rfl), List.forall_mem_cons.mpr ⟨(xws tw_700 rfl), List.forall_mem_cons.mpr ⟨(xws tw_702 rfl), List.forall_mem_cons.mpr ⟨(xws tw_704 rfl), List.forall_mem_cons.mpr ⟨(xws tw_706 rfl), List.forall_mem_cons.mpr ⟨(xws tw_708 rfl), List.forall_mem_cons.mpr ⟨(xws tw_710 rfl), List.forall_mem_cons.mpr ⟨(xws tw_712 rfl), List.forall_mem_cons.mpr ⟨(xws tw_714 rfl), List.forall_mem_cons.mpr ⟨(xws tw_716 rfl), List.forall_mem_cons.mpr ⟨(xws tw_718 rfl), List.forall_mem_cons.mpr ⟨(xws tw_720 rfl), List.forall_mem_cons.mpr ⟨(xws tw_722 rfl), List.forall_mem_cons.mpr ⟨(xws tw_724 rfl), List.forall_mem_cons.mpr ⟨(xws tw_726 rfl), List.forall_mem_cons.mpr ⟨(xws tw_728 rfl), List.forall_mem_cons.mpr ⟨(xws tw_730 rfl), List.forall_mem_cons.mpr ⟨(xws tw_732 rfl), List.forall_mem_cons.mpr ⟨(xws tw_734 rfl), List.forall_mem_cons.mpr ⟨(xws tw_736 rfl), List.forall_mem_cons.mpr ⟨(xws tw_738 rfl), List.forall_mem_cons.mpr ⟨(xws tw_740 rfl), List.forall_mem_cons.mpr ⟨(xws tw_742 rfl), List.forall_mem_cons.mpr ⟨(xws tw_744 rfl), List.forall_mem_cons.mpr ⟨(xws tw_746 rfl), List.forall_mem_cons.mpr ⟨(xws tw_748 rfl), List.forall_mem_cons.mpr ⟨(xws tw_750 rfl), (fun _ h => absurd h List.not_mem_nil)⟩⟩⟩⟩⟩⟩⟩⟩⟩⟩⟩⟩⟩⟩⟩⟩⟩⟩⟩⟩⟩⟩⟩⟩⟩⟩⟩
theorem fk_X4_9 : fOK RX4 9 4 0 := ⟨RX4, TX4, 3, rfl, by decide, rfl, Or.inl (xws tw_96 rfl)⟩
theorem fk_X4_15 : fOK RX4 15 4 1 := ⟨RX4, TX4, 3, rfl, by decide, rfl, Or.inl (xws tw_97 rfl)⟩
theorem fk_X6_81 : fOK RX6 81 4 1 := ⟨RX4, TX4, 3, rfl, by decide, rfl, Or.inr ⟨_, List.mem_of_getElem? tw_98⟩⟩
theorem fk_X4_27 : fOK RX4 27 4 2 := ⟨RX4, TX4, 3, rfl, by decide, rfl, Or.inl (xws tw_99 rfl)⟩
theorem fk_X2_9 : fOK RX2 9 2 0 := ⟨RX2, TX2, 3, rfl, by decide, rfl, Or.inl (xws tw_114 rfl)⟩
theorem fk_X2_15 : fOK RX2 15 2 1 := ⟨RX2, TX2, 3, rfl, by decide, rfl, Or.inl (xws tw_115 rfl)⟩
theorem fk_X5_56 : fOK RX5 56 2 1 := ⟨RX2, TX2, 3, rfl, by decide, rfl, Or.inr ⟨_, List.mem_of_getElem? tw_116⟩⟩
theorem fk_X4_19 : fOK RX4 19 2 1 := ⟨RX2, TX2, 3, rfl, by decide, rfl, Or.inr ⟨_, List.mem_of_getElem? tw_117⟩⟩
theorem fk_X6_89 : fOK RX6 89 2 1 := ⟨RX2, TX2, 3, rfl, by decide, rfl, Or.inr ⟨_, List.mem_of_getElem? tw_118⟩⟩
theorem fk_X5_36 : fOK RX5 36 2 2 := ⟨RX2, TX2, 3, rfl, by decide, rfl, Or.inr ⟨_, List.mem_of_getElem? tw_119⟩⟩
theorem fk_X4_24 : fOK RX4 24 2 2 := ⟨RX2, TX2, 3, rfl, by decide, rfl, Or.inr ⟨_, List.mem_of_getElem? tw_120⟩⟩
theorem fk_X2_25 : fOK RX2 25 2 2 := ⟨RX2, TX2, 3, rfl, by decide, rfl, Or.inl (xws tw_121 rfl)⟩
theorem fk_X6_132 : fOK RX6 132 2 2 := ⟨RX2, TX2, 3, rfl, by decide, rfl, Or.inr ⟨_, List.mem_of_getElem? tw_122⟩⟩
theorem fk_X3_15 : fOK RX3 15 3 0 := ⟨RX3, TX3, 2, rfl, by decide, rfl, Or.inl (xws tw_142 rfl)⟩
theorem fk_X3_22 : fOK RX3 22 3 1 := ⟨RX3, TX3, 2, rfl, by decide, rfl, Or.inl (xws tw_143 rfl)⟩
theorem fk_X6_96 : fOK RX6 96 3 1 := ⟨RX3, TX3, 2, rfl, by decide, rfl, Or.inr ⟨_, List.mem_of_getElem? tw_144⟩⟩
theorem fk_X5_9 : fOK RX5 9 5 0 := ⟨RX5, TX5, 12, rfl, by decide, rfl, Or.inl (xws tw_156 rfl)⟩
theorem fk_X5_15 : fOK RX5 15 5 1 := ⟨RX5, TX5, 12, rfl, by decide, rfl, Or.inl (xws tw_157 rfl)⟩
theorem fk_X5_18 : fOK RX5 18 5 2 := ⟨RX5, TX5, 12, rfl, by decide, rfl, Or.inl (xws tw_158 rfl)⟩
theorem fk_X5_21 : fOK RX5 21 5 3 := ⟨RX5, TX5, 12, rfl, by decide, rfl, Or.inl (xws tw_159 rfl)⟩
theorem fk_X5_24 : fOK RX5 24 5 4 := ⟨RX5, TX5, 12, rfl, by decide, rfl, Or.inl (xws tw_160 rfl)⟩
theorem fk_X5_102 : fOK RX5 102 5 5 := ⟨RX5, TX5, 12, rfl, by decide, rfl, Or.inl (xws tw_161 rfl)⟩
theorem fk_X5_42 : fOK RX5 42 5 6 := ⟨RX5, TX5, 12, rfl, by decide, rfl, Or.inl (xws tw_162 rfl)⟩
theorem fk_X5_47 : fOK RX5 47 5 7 := ⟨RX5, TX5, 12, rfl, by decide, rfl, Or.inl (xws tw_163 rfl)⟩
theorem fk_X5_27 : fOK RX5 27 5 8 := ⟨RX5, TX5, 12, rfl, by decide, rfl, Or.inl (xws tw_164 rfl)⟩
theorem fk_X1_62 : fOK RX1 62 5 8 := ⟨RX5, TX5, 12, rfl, by decide, rfl, Or.inr ⟨_, List.mem_of_getElem? tw_165⟩⟩
theorem fk_X6_155 : fOK RX6 155 5 8 := ⟨RX5, TX5, 12, rfl, by decide, rfl, Or.inr ⟨_, List.mem_of_getElem? tw_166⟩⟩
theorem fk_X5_30 : fOK RX5 30 5 9 := ⟨RX5, TX5, 12, rfl, by decide, rfl, Or.inl (xws tw_167 rfl)⟩
theorem fk_X1_65 : fOK RX1 65 5 9 := ⟨RX5, TX5, 12, rfl, by decide, rfl, Or.inr ⟨_, List.mem_of_getElem? tw_168⟩⟩
theorem fk_X6_158 : fOK RX6 158 5 9 := ⟨RX5, TX5, 12, rfl, by decide, rfl, Or.inr ⟨_, List.mem_of_getElem? tw_169⟩⟩
theorem fk_X5_33 : fOK RX5 33 5 10 := ⟨RX5, TX5, 12, rfl, by decide, rfl, Or.inl (xws tw_170 rfl)⟩
theorem fk_X0_40 : fOK RX0 40 5 10 := ⟨RX5, TX5, 12, rfl, by decide, rfl, Or.inr ⟨_, List.mem_of_getElem? tw_171⟩⟩
theorem fk_X1_68 : fOK RX1 68 5 10 := ⟨RX5, TX5, 12, rfl, by decide, rfl, Or.inr ⟨_, List.mem_of_getElem? tw_172⟩⟩
theorem fk_X6_161 : fOK RX6 161 5 10 := ⟨RX5, TX5, 12, rfl, by decide, rfl, Or.inr ⟨_, List.mem_of_getElem? tw_173⟩⟩
theorem fk_X0_33 : fOK RX0 33 5 11 := ⟨RX5, TX5, 12, rfl, by decide, rfl, Or.inr ⟨_, List.mem_of_getElem? tw_174⟩⟩
theorem fk_X1_59 : fOK RX1 59 5 11 := ⟨RX5, TX5, 12, rfl, by decide, rfl, Or.inr ⟨_, List.mem_of_getElem? tw_175⟩⟩
theorem fk_X5_109 : fOK RX5 109 5 11 := ⟨RX5, TX5, 12, rfl, by decide, rfl, Or.inl (xws tw_176 rfl)⟩
theorem fk_X6_152 : fOK RX6 152 5 11 := ⟨RX5, TX5, 12, rfl, by decide, rfl, Or.inr ⟨_, List.mem_of_getElem? tw_177⟩⟩
theorem fk_X1_9 : fOK RX1 9 1 0 := ⟨RX1, TX1, 6, rfl, by decide, rfl, Or.inl (xws tw_209 rfl)⟩
theorem fk_X6_185 : fOK RX6 185 1 0 := ⟨RX1, TX1, 6, rfl, by decide, rfl, Or.inr ⟨_, List.mem_of_getElem? tw_210⟩⟩
theorem fk_X1_15 : fOK RX1 15 1 1 := ⟨RX1, TX1, 6, rfl, by decide, rfl, Or.inl (xws tw_211 rfl)⟩
theorem fk_X6_188 : fOK RX6 188 1 1 := ⟨RX1, TX1, 6, rfl, by decide, rfl, Or.inr ⟨_, List.mem_of_getElem? tw_212⟩⟩
theorem fk_X1_18 : fOK RX1 18 1 2 := ⟨RX1, TX1, 6, rfl, by decide, rfl, Or.inl (xws tw_213 rfl)⟩
theorem fk_X6_191 : fOK RX6 191 1 2 := ⟨RX1, TX1, 6, rfl, by decide, rfl, Or.inr ⟨_, List.mem_of_getElem? tw_214⟩⟩
theorem fk_X1_21 : fOK RX1 21 1 3 := ⟨RX1, TX1, 6, rfl, by decide, rfl, Or.inl (xws tw_215 rfl)⟩
theorem fk_X6_184 : fOK RX6 184 1 3 := ⟨RX1, TX1, 6, rfl, by decide, rfl, Or.inr ⟨_, List.mem_of_getElem? tw_216⟩⟩
theorem fk_X1_34 : fOK RX1 34 1 4 := ⟨RX1, TX1, 6, rfl, by decide, rfl, Or.inl (xws tw_217 rfl)⟩
theorem fk_X6_194 : fOK RX6 194 1 4 := ⟨RX1, TX1, 6, rfl, by decide, rfl, Or.inr ⟨_, List.mem_of_getElem? tw_218⟩⟩
theorem fk_X1_25 : fOK RX1 25 1 5 := ⟨RX1, TX1, 6, rfl, by decide, rfl, Or.inl (xws tw_219 rfl)⟩
theorem fk_X6_197 : fOK RX6 197 1 5 := ⟨RX1, TX1, 6, rfl, by decide, rfl, Or.inr ⟨_, List.mem_of_getElem? tw_220⟩⟩
theorem fk_X0_9 : fOK RX0 9 0 0 := ⟨RX0, TX0, 2, rfl, by decide, rfl, Or.inl (xws tw_240 rfl)⟩
theorem fk_X0_25 : fOK RX0 25 0 1 := ⟨RX0, TX0, 2, rfl, by decide, rfl, Or.inl (xws tw_241 rfl)⟩
theorem sk_X6_62 : Cond.fieldLink RX6 62 "ShiftedShapes" "FIRST_TIMES" "[I" ∈ xWS := xws tw_247 rfl
theorem sk_X6_66 : Cond.fieldLink RX6 66 "ShiftedShapes" "FIRST_PITCHES" "[I" ∈ xWS := xws tw_249 rfl
theorem fk_X6_12 : fOK RX6 12 6 0 := ⟨RX6, TX6, 13, rfl, by decide, rfl, Or.inl (xws tw_258 rfl)⟩
theorem fk_X6_19 : fOK RX6 19 6 1 := ⟨RX6, TX6, 13, rfl, by decide, rfl, Or.inl (xws tw_259 rfl)⟩
theorem fk_X6_23 : fOK RX6 23 6 2 := ⟨RX6, TX6, 13, rfl, by decide, rfl, Or.inl (xws tw_260 rfl)⟩
theorem fk_X6_31 : fOK RX6 31 6 3 := ⟨RX6, TX6, 13, rfl, by decide, rfl, Or.inl (xws tw_261 rfl)⟩
theorem fk_X6_35 : fOK RX6 35 6 4 := ⟨RX6, TX6, 13, rfl, by decide, rfl, Or.inl (xws tw_262 rfl)⟩
theorem fk_X6_41 : fOK RX6 41 6 5 := ⟨RX6, TX6, 13, rfl, by decide, rfl, Or.inl (xws tw_263 rfl)⟩
theorem fk_X6_45 : fOK RX6 45 6 6 := ⟨RX6, TX6, 13, rfl, by decide, rfl, Or.inl (xws tw_264 rfl)⟩
theorem fk_X6_51 : fOK RX6 51 6 7 := ⟨RX6, TX6, 13, rfl, by decide, rfl, Or.inl (xws tw_265 rfl)⟩
theorem fk_X6_58 : fOK RX6 58 6 8 := ⟨RX6, TX6, 13, rfl, by decide, rfl, Or.inl (xws tw_266 rfl)⟩
theorem fk_X6_241 : fOK RX6 241 6 9 := ⟨RX6, TX6, 13, rfl, by decide, rfl, Or.inl (xws tw_267 rfl)⟩
theorem fk_X6_217 : fOK RX6 217 6 10 := ⟨RX6, TX6, 13, rfl, by decide, rfl, Or.inl (xws tw_268 rfl)⟩
theorem fk_X6_224 : fOK RX6 224 6 11 := ⟨RX6, TX6, 13, rfl, by decide, rfl, Or.inl (xws tw_269 rfl)⟩
theorem fk_X6_227 : fOK RX6 227 6 12 := ⟨RX6, TX6, 13, rfl, by decide, rfl, Or.inl (xws tw_270 rfl)⟩
theorem fk_X7_7 : fOK RX7 7 7 0 := ⟨RX7, TX7, 27, rfl, by decide, rfl, Or.inl (xws tw_671 rfl)⟩
theorem fk_X7_13 : fOK RX7 13 7 1 := ⟨RX7, TX7, 27, rfl, by decide, rfl, Or.inl (xws tw_672 rfl)⟩
theorem fk_X7_16 : fOK RX7 16 7 2 := ⟨RX7, TX7, 27, rfl, by decide, rfl, Or.inl (xws tw_673 rfl)⟩
theorem fk_X7_19 : fOK RX7 19 7 3 := ⟨RX7, TX7, 27, rfl, by decide, rfl, Or.inl (xws tw_674 rfl)⟩
theorem fk_X7_86 : fOK RX7 86 7 4 := ⟨RX7, TX7, 27, rfl, by decide, rfl, Or.inl (xws tw_675 rfl)⟩
theorem fk_X7_22 : fOK RX7 22 7 5 := ⟨RX7, TX7, 27, rfl, by decide, rfl, Or.inl (xws tw_676 rfl)⟩
theorem fk_X7_89 : fOK RX7 89 7 6 := ⟨RX7, TX7, 27, rfl, by decide, rfl, Or.inl (xws tw_677 rfl)⟩
theorem fk_X7_25 : fOK RX7 25 7 7 := ⟨RX7, TX7, 27, rfl, by decide, rfl, Or.inl (xws tw_678 rfl)⟩
theorem fk_X7_61 : fOK RX7 61 7 8 := ⟨RX7, TX7, 27, rfl, by decide, rfl, Or.inl (xws tw_679 rfl)⟩
theorem fk_X7_57 : fOK RX7 57 7 9 := ⟨RX7, TX7, 27, rfl, by decide, rfl, Or.inl (xws tw_680 rfl)⟩
theorem fk_X7_28 : fOK RX7 28 7 10 := ⟨RX7, TX7, 27, rfl, by decide, rfl, Or.inl (xws tw_681 rfl)⟩
theorem fk_X7_31 : fOK RX7 31 7 11 := ⟨RX7, TX7, 27, rfl, by decide, rfl, Or.inl (xws tw_682 rfl)⟩
theorem fk_X7_110 : fOK RX7 110 7 12 := ⟨RX7, TX7, 27, rfl, by decide, rfl, Or.inl (xws tw_683 rfl)⟩
theorem fk_X7_126 : fOK RX7 126 7 13 := ⟨RX7, TX7, 27, rfl, by decide, rfl, Or.inl (xws tw_684 rfl)⟩
theorem fk_X7_129 : fOK RX7 129 7 14 := ⟨RX7, TX7, 27, rfl, by decide, rfl, Or.inl (xws tw_685 rfl)⟩
theorem fk_X7_136 : fOK RX7 136 7 15 := ⟨RX7, TX7, 27, rfl, by decide, rfl, Or.inl (xws tw_686 rfl)⟩
theorem fk_X7_34 : fOK RX7 34 7 16 := ⟨RX7, TX7, 27, rfl, by decide, rfl, Or.inl (xws tw_687 rfl)⟩
theorem fk_X7_148 : fOK RX7 148 7 17 := ⟨RX7, TX7, 27, rfl, by decide, rfl, Or.inl (xws tw_688 rfl)⟩
theorem fk_X7_151 : fOK RX7 151 7 18 := ⟨RX7, TX7, 27, rfl, by decide, rfl, Or.inl (xws tw_689 rfl)⟩
theorem fk_X7_154 : fOK RX7 154 7 19 := ⟨RX7, TX7, 27, rfl, by decide, rfl, Or.inl (xws tw_690 rfl)⟩
theorem fk_X7_163 : fOK RX7 163 7 20 := ⟨RX7, TX7, 27, rfl, by decide, rfl, Or.inl (xws tw_691 rfl)⟩
theorem fk_X7_173 : fOK RX7 173 7 21 := ⟨RX7, TX7, 27, rfl, by decide, rfl, Or.inl (xws tw_692 rfl)⟩
theorem fk_X7_37 : fOK RX7 37 7 22 := ⟨RX7, TX7, 27, rfl, by decide, rfl, Or.inl (xws tw_693 rfl)⟩
theorem fk_X7_176 : fOK RX7 176 7 23 := ⟨RX7, TX7, 27, rfl, by decide, rfl, Or.inl (xws tw_694 rfl)⟩
theorem fk_X7_179 : fOK RX7 179 7 24 := ⟨RX7, TX7, 27, rfl, by decide, rfl, Or.inl (xws tw_695 rfl)⟩
theorem fk_X7_40 : fOK RX7 40 7 25 := ⟨RX7, TX7, 27, rfl, by decide, rfl, Or.inl (xws tw_696 rfl)⟩
theorem fk_X7_43 : fOK RX7 43 7 26 := ⟨RX7, TX7, 27, rfl, by decide, rfl, Or.inl (xws tw_697 rfl)⟩
theorem ykX0_init : yOK yX0_init cX0_init 1 none 0 := ⟨(xws tw_238 rfl), (xws tw_77 rfl), by decide +kernel, by decide +kernel⟩
theorem nkX0_init : nOK yX0_init := ⟨rfl, (xws tw_237 rfl)⟩
theorem ykX0_fewestOf : yOK yX0_fewestOf cX0_fewestOf 4 ((some .int)) 1 := ⟨(xws tw_602 rfl), (xws tw_77 rfl), by decide +kernel, by decide +kernel⟩
theorem vkX0_fewestOf : vOK yX0_fewestOf := ⟨(xws tw_601 rfl), (xws tw_44 rfl)⟩
theorem ykX0_gather : yOK yX0_gather cX0_gather 3 none 1 := ⟨(xws tw_606 rfl), (xws tw_77 rfl), by decide +kernel, by decide +kernel⟩
theorem vkX0_gather : vOK yX0_gather := ⟨(xws tw_605 rfl), (xws tw_45 rfl)⟩
theorem ykX0_isWithinAnother : yOK yX0_isWithinAnother cX0_isWithinAnother 6 ((some .boolean)) 2 := ⟨(xws tw_609 rfl), (xws tw_77 rfl), by decide +kernel, by decide +kernel⟩
theorem zkX0_isWithinAnother : Cond.static yX0_isWithinAnother ∈ xWS := (xws tw_608 rfl)
theorem ykX0_isReached : yOK yX0_isReached cX0_isReached 6 ((some .boolean)) 4 := ⟨(xws tw_616 rfl), (xws tw_77 rfl), by decide +kernel, by decide +kernel⟩
theorem zkX0_isReached : Cond.static yX0_isReached ∈ xWS := (xws tw_615 rfl)
theorem ykX1_init : yOK yX1_init cX1_init 1 none 0 := ⟨(xws tw_207 rfl), (xws tw_76 rfl), by decide +kernel, by decide +kernel⟩
theorem nkX1_init : nOK yX1_init := ⟨rfl, (xws tw_206 rfl)⟩
theorem ykX1_takeApart : yOK yX1_takeApart cX1_takeApart 6 none 2 := ⟨(xws tw_581 rfl), (xws tw_76 rfl), by decide +kernel, by decide +kernel⟩
theorem vkX1_takeApart : vOK yX1_takeApart := ⟨(xws tw_580 rfl), (xws tw_42 rfl)⟩
theorem ykX1_setAside : yOK yX1_setAside cX1_setAside 3 none 2 := ⟨(xws tw_589 rfl), (xws tw_76 rfl), by decide +kernel, by decide +kernel⟩
theorem vkX1_setAside : vOK yX1_setAside := ⟨(xws tw_588 rfl), (xws tw_43 rfl)⟩
theorem ykX2_init : yOK yX2_init cX2_init 1 none 0 := ⟨(xws tw_112 rfl), (xws tw_72 rfl), by decide +kernel, by decide +kernel⟩
theorem nkX2_init : nOK yX2_init := ⟨rfl, (xws tw_111 rfl)⟩
theorem ykX2_timeOf : yOK yX2_timeOf cX2_timeOf 2 ((some .int)) 1 := ⟨(xws tw_378 rfl), (xws tw_72 rfl), by decide +kernel, by decide +kernel⟩
theorem vkX2_timeOf : vOK yX2_timeOf := ⟨(xws tw_377 rfl), (xws tw_13 rfl)⟩
theorem ykX2_pitchOf : yOK yX2_pitchOf cX2_pitchOf 2 ((some .int)) 1 := ⟨(xws tw_382 rfl), (xws tw_72 rfl), by decide +kernel, by decide +kernel⟩
theorem vkX2_pitchOf : vOK yX2_pitchOf := ⟨(xws tw_381 rfl), (xws tw_14 rfl)⟩
theorem ykX2_allNotes : yOK yX2_allNotes cX2_allNotes 1 ((some .int)) 0 := ⟨(xws tw_457 rfl), (xws tw_72 rfl), by decide +kernel, by decide +kernel⟩
theorem vkX2_allNotes : vOK yX2_allNotes := ⟨(xws tw_456 rfl), (xws tw_25 rfl)⟩
theorem ykX2_numberOf : yOK yX2_numberOf cX2_numberOf 3 ((some .int)) 1 := ⟨(xws tw_346 rfl), (xws tw_72 rfl), by decide +kernel, by decide +kernel⟩
theorem vkX2_numberOf : vOK yX2_numberOf := ⟨(xws tw_345 rfl), (xws tw_8 rfl)⟩
theorem ykX2_insert : yOK yX2_insert cX2_insert 3 ((some .int)) 1 := ⟨(xws tw_257 rfl), (xws tw_72 rfl), by decide +kernel, by decide +kernel⟩
theorem vkX2_insert : vOK yX2_insert := ⟨(xws tw_256 rfl), (xws tw_0 rfl)⟩
theorem ykX2_remove : yOK yX2_remove cX2_remove 3 none 1 := ⟨(xws tw_409 rfl), (xws tw_72 rfl), by decide +kernel, by decide +kernel⟩
theorem vkX2_remove : vOK yX2_remove := ⟨(xws tw_408 rfl), (xws tw_18 rfl)⟩
theorem ykX2_moveAll : yOK yX2_moveAll cX2_moveAll 3 none 1 := ⟨(xws tw_433 rfl), (xws tw_72 rfl), by decide +kernel, by decide +kernel⟩
theorem vkX2_moveAll : vOK yX2_moveAll := ⟨(xws tw_432 rfl), (xws tw_22 rfl)⟩
theorem ykX2_copyFrom : yOK yX2_copyFrom cX2_copyFrom 2 none 1 := ⟨(xws tw_359 rfl), (xws tw_72 rfl), by decide +kernel, by decide +kernel⟩
theorem vkX2_copyFrom : vOK yX2_copyFrom := ⟨(xws tw_358 rfl), (xws tw_10 rfl)⟩
theorem ykX3_init : yOK yX3_init cX3_init 3 none 1 := ⟨(xws tw_134 rfl), (xws tw_73 rfl), by decide +kernel, by decide +kernel⟩
theorem nkX3_init : nOK yX3_init := ⟨rfl, (xws tw_133 rfl)⟩
theorem ykX3_push : yOK yX3_push cX3_push 2 none 1 := ⟨(xws tw_396 rfl), (xws tw_73 rfl), by decide +kernel, by decide +kernel⟩
theorem vkX3_push : vOK yX3_push := ⟨(xws tw_395 rfl), (xws tw_16 rfl)⟩
theorem ykX3_popInto : yOK yX3_popInto cX3_popInto 2 none 1 := ⟨(xws tw_445 rfl), (xws tw_73 rfl), by decide +kernel, by decide +kernel⟩
theorem vkX3_popInto : vOK yX3_popInto := ⟨(xws tw_444 rfl), (xws tw_23 rfl)⟩
theorem ykX3_dropOldest : yOK yX3_dropOldest cX3_dropOldest 3 none 0 := ⟨(xws tw_400 rfl), (xws tw_73 rfl), by decide +kernel, by decide +kernel⟩
theorem vkX3_dropOldest : vOK yX3_dropOldest := ⟨(xws tw_399 rfl), (xws tw_17 rfl)⟩
theorem ykX4_init : yOK yX4_init cX4_init 1 none 0 := ⟨(xws tw_94 rfl), (xws tw_71 rfl), by decide +kernel, by decide +kernel⟩
theorem nkX4_init : nOK yX4_init := ⟨rfl, (xws tw_93 rfl)⟩
theorem ykX4_append : yOK yX4_append cX4_append 2 ((some .boolean)) 1 := ⟨(xws tw_305 rfl), (xws tw_71 rfl), by decide +kernel, by decide +kernel⟩
theorem vkX4_append : vOK yX4_append := ⟨(xws tw_304 rfl), (xws tw_1 rfl)⟩
theorem ykX4_readInto : yOK yX4_readInto cX4_readInto 4 ((some .int)) 1 := ⟨(xws tw_317 rfl), (xws tw_71 rfl), by decide +kernel, by decide +kernel⟩
theorem vkX4_readInto : vOK yX4_readInto := ⟨(xws tw_316 rfl), (xws tw_2 rfl)⟩
theorem ykX4_readItem : yOK yX4_readItem cX4_readItem 2 ((some .boolean)) 1 := ⟨(xws tw_321 rfl), (xws tw_71 rfl), by decide +kernel, by decide +kernel⟩
theorem vkX4_readItem : vOK yX4_readItem := ⟨(xws tw_320 rfl), (xws tw_3 rfl)⟩
theorem ykX4_readNote : yOK yX4_readNote cX4_readNote 4 ((some .boolean)) 1 := ⟨(xws tw_329 rfl), (xws tw_71 rfl), by decide +kernel, by decide +kernel⟩
theorem vkX4_readNote : vOK yX4_readNote := ⟨(xws tw_328 rfl), (xws tw_5 rfl)⟩
theorem ykX4_readManner : yOK yX4_readManner cX4_readManner 3 ((some .boolean)) 1 := ⟨(xws tw_351 rfl), (xws tw_71 rfl), by decide +kernel, by decide +kernel⟩
theorem vkX4_readManner : vOK yX4_readManner := ⟨(xws tw_350 rfl), (xws tw_9 rfl)⟩
theorem ykX4_readNumber : yOK yX4_readNumber cX4_readNumber 3 ((some .int)) 0 := ⟨(xws tw_333 rfl), (xws tw_71 rfl), by decide +kernel, by decide +kernel⟩
theorem vkX4_readNumber : vOK yX4_readNumber := ⟨(xws tw_332 rfl), (xws tw_6 rfl)⟩
theorem ykX4_isFigure : yOK yX4_isFigure cX4_isFigure 1 ((some .boolean)) 0 := ⟨(xws tw_337 rfl), (xws tw_71 rfl), by decide +kernel, by decide +kernel⟩
theorem vkX4_isFigure : vOK yX4_isFigure := ⟨(xws tw_336 rfl), (xws tw_7 rfl)⟩
theorem ykX4_skip : yOK yX4_skip cX4_skip 2 ((some .boolean)) 1 := ⟨(xws tw_325 rfl), (xws tw_71 rfl), by decide +kernel, by decide +kernel⟩
theorem vkX4_skip : vOK yX4_skip := ⟨(xws tw_324 rfl), (xws tw_4 rfl)⟩
theorem ykX5_init : yOK yX5_init cX5_init 1 none 0 := ⟨(xws tw_154 rfl), (xws tw_75 rfl), by decide +kernel, by decide +kernel⟩
theorem nkX5_init : nOK yX5_init := ⟨rfl, (xws tw_153 rfl)⟩
theorem ykX5_lookOver : yOK yX5_lookOver cX5_lookOver 4 none 2 := ⟨(xws tw_461 rfl), (xws tw_75 rfl), by decide +kernel, by decide +kernel⟩
theorem vkX5_lookOver : vOK yX5_lookOver := ⟨(xws tw_460 rfl), (xws tw_26 rfl)⟩
theorem ykX5_has : yOK yX5_has cX5_has 2 ((some .boolean)) 2 := ⟨(xws tw_470 rfl), (xws tw_75 rfl), by decide +kernel, by decide +kernel⟩
theorem zkX5_has : Cond.static yX5_has ∈ xWS := (xws tw_469 rfl)
theorem ykX5_hasTwo : yOK yX5_hasTwo cX5_hasTwo 1 ((some .boolean)) 1 := ⟨(xws tw_499 rfl), (xws tw_75 rfl), by decide +kernel, by decide +kernel⟩
theorem zkX5_hasTwo : Cond.static yX5_hasTwo ∈ xWS := (xws tw_498 rfl)
theorem ykX5_shiftOf : yOK yX5_shiftOf cX5_shiftOf 2 ((some .int)) 2 := ⟨(xws tw_492 rfl), (xws tw_75 rfl), by decide +kernel, by decide +kernel⟩
theorem zkX5_shiftOf : Cond.static yX5_shiftOf ∈ xWS := (xws tw_491 rfl)
theorem ykX5_timePart : yOK yX5_timePart cX5_timePart 1 ((some .int)) 1 := ⟨(xws tw_514 rfl), (xws tw_75 rfl), by decide +kernel, by decide +kernel⟩
theorem zkX5_timePart : Cond.static yX5_timePart ∈ xWS := (xws tw_513 rfl)
theorem ykX5_pitchPart : yOK yX5_pitchPart cX5_pitchPart 1 ((some .int)) 1 := ⟨(xws tw_517 rfl), (xws tw_75 rfl), by decide +kernel, by decide +kernel⟩
theorem zkX5_pitchPart : Cond.static yX5_pitchPart ∈ xWS := (xws tw_516 rfl)
theorem ykX5_findLargests : yOK yX5_findLargests cX5_findLargests 3 none 0 := ⟨(xws tw_475 rfl), (xws tw_75 rfl), by decide +kernel, by decide +kernel⟩
theorem vkX5_findLargests : vOK yX5_findLargests := ⟨(xws tw_474 rfl), (xws tw_27 rfl)⟩
theorem ykX5_enterPair : yOK yX5_enterPair cX5_enterPair 5 none 2 := ⟨(xws tw_479 rfl), (xws tw_75 rfl), by decide +kernel, by decide +kernel⟩
theorem vkX5_enterPair : vOK yX5_enterPair := ⟨(xws tw_478 rfl), (xws tw_28 rfl)⟩
theorem ykX5_enter : yOK yX5_enter cX5_enter 4 none 3 := ⟨(xws tw_486 rfl), (xws tw_75 rfl), by decide +kernel, by decide +kernel⟩
theorem vkX5_enter : vOK yX5_enter := ⟨(xws tw_485 rfl), (xws tw_29 rfl)⟩
theorem ykX5_isHeld : yOK yX5_isHeld cX5_isHeld 2 ((some .boolean)) 2 := ⟨(xws tw_489 rfl), (xws tw_75 rfl), by decide +kernel, by decide +kernel⟩
theorem zkX5_isHeld : Cond.static yX5_isHeld ∈ xWS := (xws tw_488 rfl)
theorem ykX5_findWideShifts : yOK yX5_findWideShifts cX5_findWideShifts 2 none 0 := ⟨(xws tw_496 rfl), (xws tw_75 rfl), by decide +kernel, by decide +kernel⟩
theorem vkX5_findWideShifts : vOK yX5_findWideShifts := ⟨(xws tw_495 rfl), (xws tw_30 rfl)⟩
theorem ykX5_findShapes : yOK yX5_findShapes cX5_findShapes 3 none 0 := ⟨(xws tw_503 rfl), (xws tw_75 rfl), by decide +kernel, by decide +kernel⟩
theorem vkX5_findShapes : vOK yX5_findShapes := ⟨(xws tw_502 rfl), (xws tw_31 rfl)⟩
theorem ykX5_isShape : yOK yX5_isShape cX5_isShape 3 ((some .boolean)) 1 := ⟨(xws tw_507 rfl), (xws tw_75 rfl), by decide +kernel, by decide +kernel⟩
theorem vkX5_isShape : vOK yX5_isShape := ⟨(xws tw_506 rfl), (xws tw_32 rfl)⟩
theorem ykX5_measureShape : yOK yX5_measureShape cX5_measureShape 9 none 1 := ⟨(xws tw_511 rfl), (xws tw_75 rfl), by decide +kernel, by decide +kernel⟩
theorem vkX5_measureShape : vOK yX5_measureShape := ⟨(xws tw_510 rfl), (xws tw_33 rfl)⟩
theorem ykX5_met : yOK yX5_met cX5_met 7 ((some .int)) 3 := ⟨(xws tw_521 rfl), (xws tw_75 rfl), by decide +kernel, by decide +kernel⟩
theorem vkX5_met : vOK yX5_met := ⟨(xws tw_520 rfl), (xws tw_34 rfl)⟩
theorem ykX5_numberAt : yOK yX5_numberAt cX5_numberAt 3 ((some .int)) 2 := ⟨(xws tw_525 rfl), (xws tw_75 rfl), by decide +kernel, by decide +kernel⟩
theorem vkX5_numberAt : vOK yX5_numberAt := ⟨(xws tw_524 rfl), (xws tw_35 rfl)⟩
theorem ykX5_largestOf : yOK yX5_largestOf cX5_largestOf 3 ((some .int)) 2 := ⟨(xws tw_529 rfl), (xws tw_75 rfl), by decide +kernel, by decide +kernel⟩
theorem vkX5_largestOf : vOK yX5_largestOf := ⟨(xws tw_528 rfl), (xws tw_36 rfl)⟩
theorem ykX5_placesOf : yOK yX5_placesOf cX5_placesOf 4 ((some .int)) 1 := ⟨(xws tw_556 rfl), (xws tw_75 rfl), by decide +kernel, by decide +kernel⟩
theorem vkX5_placesOf : vOK yX5_placesOf := ⟨(xws tw_555 rfl), (xws tw_38 rfl)⟩
theorem ykX5_placeOf : yOK yX5_placeOf cX5_placeOf 5 ((some .int)) 2 := ⟨(xws tw_560 rfl), (xws tw_75 rfl), by decide +kernel, by decide +kernel⟩
theorem vkX5_placeOf : vOK yX5_placeOf := ⟨(xws tw_559 rfl), (xws tw_39 rfl)⟩
theorem ykX5_gainOf : yOK yX5_gainOf cX5_gainOf 2 ((some .int)) 1 := ⟨(xws tw_542 rfl), (xws tw_75 rfl), by decide +kernel, by decide +kernel⟩
theorem vkX5_gainOf : vOK yX5_gainOf := ⟨(xws tw_541 rfl), (xws tw_37 rfl)⟩
theorem ykX5_bestShape : yOK yX5_bestShape cX5_bestShape 3 ((some .int)) 0 := ⟨(xws tw_568 rfl), (xws tw_75 rfl), by decide +kernel, by decide +kernel⟩
theorem vkX5_bestShape : vOK yX5_bestShape := ⟨(xws tw_567 rfl), (xws tw_40 rfl)⟩
theorem ykX5_isBetter : yOK yX5_isBetter cX5_isBetter 5 ((some .boolean)) 2 := ⟨(xws tw_572 rfl), (xws tw_75 rfl), by decide +kernel, by decide +kernel⟩
theorem vkX5_isBetter : vOK yX5_isBetter := ⟨(xws tw_571 rfl), (xws tw_41 rfl)⟩
theorem ykX5_covered : yOK yX5_covered cX5_covered 3 ((some .int)) 0 := ⟨(xws tw_613 rfl), (xws tw_75 rfl), by decide +kernel, by decide +kernel⟩
theorem vkX5_covered : vOK yX5_covered := ⟨(xws tw_612 rfl), (xws tw_46 rfl)⟩
theorem ykX6_init : yOK yX6_init cX6_init 2 none 0 := ⟨(xws tw_86 rfl), (xws tw_70 rfl), by decide +kernel, by decide +kernel⟩
theorem nkX6_init : nOK yX6_init := ⟨rfl, (xws tw_85 rfl)⟩
theorem ykX6_write : yOK yX6_write cX6_write 2 ((some .int)) 1 := ⟨(xws tw_301 rfl), (xws tw_70 rfl), by decide +kernel, by decide +kernel⟩
theorem vkX6_write : vOK yX6_write := ⟨(xws tw_299 rfl), (xws tw_300 rfl)⟩
theorem ykX6_wipe : yOK yX6_wipe cX6_wipe 2 ((some .int)) 0 := ⟨(xws tw_309 rfl), (xws tw_70 rfl), by decide +kernel, by decide +kernel⟩
theorem vkX6_wipe : vOK yX6_wipe := ⟨(xws tw_307 rfl), (xws tw_308 rfl)⟩
theorem ykX6_fault : yOK yX6_fault cX6_fault 1 ((some .int)) 0 := ⟨(xws tw_313 rfl), (xws tw_70 rfl), by decide +kernel, by decide +kernel⟩
theorem vkX6_fault : vOK yX6_fault := ⟨(xws tw_311 rfl), (xws tw_312 rfl)⟩
theorem ykX6_lay : yOK yX6_lay cX6_lay 1 ((some .int)) 0 := ⟨(xws tw_355 rfl), (xws tw_70 rfl), by decide +kernel, by decide +kernel⟩
theorem vkX6_lay : vOK yX6_lay := ⟨(xws tw_353 rfl), (xws tw_354 rfl)⟩
theorem ykX6_note : yOK yX6_note cX6_note 3 ((some .int)) 2 := ⟨(xws tw_370 rfl), (xws tw_70 rfl), by decide +kernel, by decide +kernel⟩
theorem vkX6_note : vOK yX6_note := ⟨(xws tw_368 rfl), (xws tw_369 rfl)⟩
theorem ykX6_put : yOK yX6_put cX6_put 3 ((some .int)) 2 := ⟨(xws tw_386 rfl), (xws tw_70 rfl), by decide +kernel, by decide +kernel⟩
theorem vkX6_put : vOK yX6_put := ⟨(xws tw_384 rfl), (xws tw_385 rfl)⟩
theorem ykX6_take : yOK yX6_take cX6_take 2 ((some .int)) 1 := ⟨(xws tw_405 rfl), (xws tw_70 rfl), by decide +kernel, by decide +kernel⟩
theorem vkX6_take : vOK yX6_take := ⟨(xws tw_403 rfl), (xws tw_404 rfl)⟩
theorem ykX6_shift : yOK yX6_shift cX6_shift 5 ((some .int)) 3 := ⟨(xws tw_413 rfl), (xws tw_70 rfl), by decide +kernel, by decide +kernel⟩
theorem vkX6_shift : vOK yX6_shift := ⟨(xws tw_411 rfl), (xws tw_412 rfl)⟩
theorem ykX6_shiftAll : yOK yX6_shiftAll cX6_shiftAll 4 ((some .int)) 2 := ⟨(xws tw_429 rfl), (xws tw_70 rfl), by decide +kernel, by decide +kernel⟩
theorem vkX6_shiftAll : vOK yX6_shiftAll := ⟨(xws tw_427 rfl), (xws tw_428 rfl)⟩
theorem ykX6_mode : yOK yX6_mode cX6_mode 3 ((some .int)) 1 := ⟨(xws tw_437 rfl), (xws tw_70 rfl), by decide +kernel, by decide +kernel⟩
theorem vkX6_mode : vOK yX6_mode := ⟨(xws tw_435 rfl), (xws tw_436 rfl)⟩
theorem ykX6_undo : yOK yX6_undo cX6_undo 1 ((some .int)) 0 := ⟨(xws tw_441 rfl), (xws tw_70 rfl), by decide +kernel, by decide +kernel⟩
theorem vkX6_undo : vOK yX6_undo := ⟨(xws tw_439 rfl), (xws tw_440 rfl)⟩
theorem ykX6_largest : yOK yX6_largest cX6_largest 3 ((some .int)) 2 := ⟨(xws tw_449 rfl), (xws tw_70 rfl), by decide +kernel, by decide +kernel⟩
theorem vkX6_largest : vOK yX6_largest := ⟨(xws tw_447 rfl), (xws tw_448 rfl)⟩
theorem ykX6_meets : yOK yX6_meets cX6_meets 4 ((some .int)) 3 := ⟨(xws tw_533 rfl), (xws tw_70 rfl), by decide +kernel, by decide +kernel⟩
theorem vkX6_meets : vOK yX6_meets := ⟨(xws tw_531 rfl), (xws tw_532 rfl)⟩
theorem ykX6_shape : yOK yX6_shape cX6_shape 4 ((some .int)) 2 := ⟨(xws tw_538 rfl), (xws tw_70 rfl), by decide +kernel, by decide +kernel⟩
theorem vkX6_shape : vOK yX6_shape := ⟨(xws tw_536 rfl), (xws tw_537 rfl)⟩
theorem ykX6_place : yOK yX6_place cX6_place 3 ((some .int)) 2 := ⟨(xws tw_552 rfl), (xws tw_70 rfl), by decide +kernel, by decide +kernel⟩
theorem vkX6_place : vOK yX6_place := ⟨(xws tw_550 rfl), (xws tw_551 rfl)⟩
theorem ykX6_best : yOK yX6_best cX6_best 3 ((some .int)) 1 := ⟨(xws tw_564 rfl), (xws tw_70 rfl), by decide +kernel, by decide +kernel⟩
theorem vkX6_best : vOK yX6_best := ⟨(xws tw_562 rfl), (xws tw_563 rfl)⟩
theorem ykX6_parted : yOK yX6_parted cX6_parted 3 ((some .int)) 2 := ⟨(xws tw_577 rfl), (xws tw_70 rfl), by decide +kernel, by decide +kernel⟩
theorem vkX6_parted : vOK yX6_parted := ⟨(xws tw_575 rfl), (xws tw_576 rfl)⟩
theorem ykX6_parting : yOK yX6_parting cX6_parting 2 ((some .int)) 1 := ⟨(xws tw_594 rfl), (xws tw_70 rfl), by decide +kernel, by decide +kernel⟩
theorem vkX6_parting : vOK yX6_parting := ⟨(xws tw_592 rfl), (xws tw_593 rfl)⟩
theorem ykX6_shapes : yOK yX6_shapes cX6_shapes 2 ((some .int)) 1 := ⟨(xws tw_598 rfl), (xws tw_70 rfl), by decide +kernel, by decide +kernel⟩
theorem vkX6_shapes : vOK yX6_shapes := ⟨(xws tw_596 rfl), (xws tw_597 rfl)⟩
theorem ykX6_link : yOK yX6_link cX6_link 6 ((some .int)) 3 := ⟨(xws tw_621 rfl), (xws tw_70 rfl), by decide +kernel, by decide +kernel⟩
theorem vkX6_link : vOK yX6_link := ⟨(xws tw_619 rfl), (xws tw_620 rfl)⟩
theorem ykX6_better : yOK yX6_better cX6_better 2 ((some .int)) 1 := ⟨(xws tw_627 rfl), (xws tw_70 rfl), by decide +kernel, by decide +kernel⟩
theorem vkX6_better : vOK yX6_better := ⟨(xws tw_625 rfl), (xws tw_626 rfl)⟩
theorem ykX6_day : yOK yX6_day cX6_day 5 ((some .int)) 3 := ⟨(xws tw_635 rfl), (xws tw_70 rfl), by decide +kernel, by decide +kernel⟩
theorem vkX6_day : vOK yX6_day := ⟨(xws tw_633 rfl), (xws tw_634 rfl)⟩
theorem ykX6_keep : yOK yX6_keep cX6_keep 1 ((some .int)) 0 := ⟨(xws tw_646 rfl), (xws tw_70 rfl), by decide +kernel, by decide +kernel⟩
theorem vkX6_keep : vOK yX6_keep := ⟨(xws tw_644 rfl), (xws tw_645 rfl)⟩
theorem ykX6_back : yOK yX6_back cX6_back 1 ((some .int)) 0 := ⟨(xws tw_650 rfl), (xws tw_70 rfl), by decide +kernel, by decide +kernel⟩
theorem vkX6_back : vOK yX6_back := ⟨(xws tw_648 rfl), (xws tw_649 rfl)⟩
theorem ykX6_count : yOK yX6_count cX6_count 2 ((some .int)) 1 := ⟨(xws tw_654 rfl), (xws tw_70 rfl), by decide +kernel, by decide +kernel⟩
theorem vkX6_count : vOK yX6_count := ⟨(xws tw_652 rfl), (xws tw_653 rfl)⟩
theorem ykX6_beginAct : yOK yX6_beginAct cX6_beginAct 1 none 0 := ⟨(xws tw_392 rfl), (xws tw_70 rfl), by decide +kernel, by decide +kernel⟩
theorem vkX6_beginAct : vOK yX6_beginAct := ⟨(xws tw_391 rfl), (xws tw_15 rfl)⟩
theorem ykX6_forgetFindings : yOK yX6_forgetFindings cX6_forgetFindings 1 none 0 := ⟨(xws tw_366 rfl), (xws tw_70 rfl), by decide +kernel, by decide +kernel⟩
theorem vkX6_forgetFindings : vOK yX6_forgetFindings := ⟨(xws tw_365 rfl), (xws tw_11 rfl)⟩
theorem ykX6_wholeSearch : yOK yX6_wholeSearch cX6_wholeSearch 1 ((some (.object "ShiftedShapes$Search"))) 0 := ⟨(xws tw_453 rfl), (xws tw_70 rfl), by decide +kernel, by decide +kernel⟩
theorem vkX6_wholeSearch : vOK yX6_wholeSearch := ⟨(xws tw_452 rfl), (xws tw_24 rfl)⟩
theorem ykX6_findBetter : yOK yX6_findBetter cX6_findBetter 4 none 0 := ⟨(xws tw_631 rfl), (xws tw_70 rfl), by decide +kernel, by decide +kernel⟩
theorem vkX6_findBetter : vOK yX6_findBetter := ⟨(xws tw_630 rfl), (xws tw_47 rfl)⟩
theorem ykX6_drawOnce : yOK yX6_drawOnce cX6_drawOnce 8 none 2 := ⟨(xws tw_639 rfl), (xws tw_70 rfl), by decide +kernel, by decide +kernel⟩
theorem vkX6_drawOnce : vOK yX6_drawOnce := ⟨(xws tw_638 rfl), (xws tw_48 rfl)⟩
theorem ykX6_isNote : yOK yX6_isNote cX6_isNote 2 ((some .boolean)) 1 := ⟨(xws tw_374 rfl), (xws tw_70 rfl), by decide +kernel, by decide +kernel⟩
theorem vkX6_isNote : vOK yX6_isNote := ⟨(xws tw_373 rfl), (xws tw_12 rfl)⟩
theorem ykX6_isShift : yOK yX6_isShift cX6_isShift 4 ((some .boolean)) 2 := ⟨(xws tw_421 rfl), (xws tw_70 rfl), by decide +kernel, by decide +kernel⟩
theorem vkX6_isShift : vOK yX6_isShift := ⟨(xws tw_420 rfl), (xws tw_20 rfl)⟩
theorem ykX6_isMove : yOK yX6_isMove cX6_isMove 3 ((some .boolean)) 2 := ⟨(xws tw_417 rfl), (xws tw_70 rfl), by decide +kernel, by decide +kernel⟩
theorem vkX6_isMove : vOK yX6_isMove := ⟨(xws tw_416 rfl), (xws tw_19 rfl)⟩
theorem ykX6_staysWithin : yOK yX6_staysWithin cX6_staysWithin 4 ((some .boolean)) 3 := ⟨(xws tw_425 rfl), (xws tw_70 rfl), by decide +kernel, by decide +kernel⟩
theorem vkX6_staysWithin : vOK yX6_staysWithin := ⟨(xws tw_424 rfl), (xws tw_21 rfl)⟩
theorem ykX6_isWithin : yOK yX6_isWithin cX6_isWithin 2 ((some .boolean)) 2 := ⟨(xws tw_341 rfl), (xws tw_70 rfl), by decide +kernel, by decide +kernel⟩
theorem zkX6_isWithin : Cond.static yX6_isWithin ∈ xWS := (xws tw_340 rfl)
theorem ykX6_codeOf : yOK yX6_codeOf cX6_codeOf 2 ((some .int)) 2 := ⟨(xws tw_253 rfl), (xws tw_70 rfl), by decide +kernel, by decide +kernel⟩
theorem zkX6_codeOf : Cond.static yX6_codeOf ∈ xWS := (xws tw_252 rfl)
theorem ykX7_init : yOK yX7_init cX7_init 1 none 0 := ⟨(xws tw_659 rfl), (xws tw_78 rfl), by decide +kernel, by decide +kernel⟩
theorem nkX7_init : nOK yX7_init := ⟨rfl, (xws tw_658 rfl)⟩
theorem ykX7_begins : yOK yX7_begins cX7_begins 1 none 0 := ⟨(xws tw_664 rfl), (xws tw_78 rfl), by decide +kernel, by decide +kernel⟩
theorem vkX7_begins : vOK yX7_begins := ⟨(xws tw_663 rfl), (xws tw_49 rfl)⟩
theorem ykX7_in : yOK yX7_in cX7_in 3 ((some .boolean)) 3 := ⟨(xws tw_759 rfl), (xws tw_78 rfl), by decide +kernel, by decide +kernel⟩
theorem zkX7_in : Cond.static yX7_in ∈ xWS := (xws tw_758 rfl)
theorem ykX7_has : yOK yX7_has cX7_has 2 ((some .boolean)) 2 := ⟨(xws tw_850 rfl), (xws tw_78 rfl), by decide +kernel, by decide +kernel⟩
theorem zkX7_has : Cond.static yX7_has ∈ xWS := (xws tw_849 rfl)
theorem ykX7_bits : yOK yX7_bits cX7_bits 3 ((some .int)) 1 := ⟨(xws tw_877 rfl), (xws tw_78 rfl), by decide +kernel, by decide +kernel⟩
theorem zkX7_bits : Cond.static yX7_bits ∈ xWS := (xws tw_876 rfl)
theorem ykX7_copies : yOK yX7_copies cX7_copies 5 none 4 := ⟨(xws tw_670 rfl), (xws tw_78 rfl), by decide +kernel, by decide +kernel⟩
theorem zkX7_copies : Cond.static yX7_copies ∈ xWS := (xws tw_669 rfl)
theorem ykX7_numberOf : yOK yX7_numberOf cX7_numberOf 4 ((some .int)) 3 := ⟨(xws tw_786 rfl), (xws tw_78 rfl), by decide +kernel, by decide +kernel⟩
theorem zkX7_numberOf : Cond.static yX7_numberOf ∈ xWS := (xws tw_785 rfl)
theorem ykX7_puts : yOK yX7_puts cX7_puts 4 ((some .int)) 3 := ⟨(xws tw_667 rfl), (xws tw_78 rfl), by decide +kernel, by decide +kernel⟩
theorem zkX7_puts : Cond.static yX7_puts ∈ xWS := (xws tw_666 rfl)
theorem ykX7_leaves : yOK yX7_leaves cX7_leaves 3 none 2 := ⟨(xws tw_816 rfl), (xws tw_78 rfl), by decide +kernel, by decide +kernel⟩
theorem zkX7_leaves : Cond.static yX7_leaves ∈ xWS := (xws tw_815 rfl)
theorem ykX7_here : yOK yX7_here cX7_here 1 ((some .int)) 0 := ⟨(xws tw_779 rfl), (xws tw_78 rfl), by decide +kernel, by decide +kernel⟩
theorem vkX7_here : vOK yX7_here := ⟨(xws tw_778 rfl), (xws tw_52 rfl)⟩
theorem ykX7_number : yOK yX7_number cX7_number 5 ((some .int)) 2 := ⟨(xws tw_783 rfl), (xws tw_78 rfl), by decide +kernel, by decide +kernel⟩
theorem vkX7_number : vOK yX7_number := ⟨(xws tw_782 rfl), (xws tw_53 rfl)⟩
theorem ykX7_readsItem : yOK yX7_readsItem cX7_readsItem 4 ((some .boolean)) 0 := ⟨(xws tw_775 rfl), (xws tw_78 rfl), by decide +kernel, by decide +kernel⟩
theorem vkX7_readsItem : vOK yX7_readsItem := ⟨(xws tw_774 rfl), (xws tw_51 rfl)⟩
theorem ykX7_reading : yOK yX7_reading cX7_reading 2 ((some .int)) 0 := ⟨(xws tw_771 rfl), (xws tw_78 rfl), by decide +kernel, by decide +kernel⟩
theorem vkX7_reading : vOK yX7_reading := ⟨(xws tw_770 rfl), (xws tw_50 rfl)⟩
theorem ykX7_write : yOK yX7_write cX7_write 2 ((some .int)) 1 := ⟨(xws tw_756 rfl), (xws tw_78 rfl), by decide +kernel, by decide +kernel⟩
theorem vkX7_write : vOK yX7_write := ⟨(xws tw_754 rfl), (xws tw_755 rfl)⟩
theorem ykX7_wipe : yOK yX7_wipe cX7_wipe 2 ((some .int)) 0 := ⟨(xws tw_763 rfl), (xws tw_78 rfl), by decide +kernel, by decide +kernel⟩
theorem vkX7_wipe : vOK yX7_wipe := ⟨(xws tw_761 rfl), (xws tw_762 rfl)⟩
theorem ykX7_fault : yOK yX7_fault cX7_fault 1 ((some .int)) 0 := ⟨(xws tw_767 rfl), (xws tw_78 rfl), by decide +kernel, by decide +kernel⟩
theorem vkX7_fault : vOK yX7_fault := ⟨(xws tw_765 rfl), (xws tw_766 rfl)⟩
theorem ykX7_lay : yOK yX7_lay cX7_lay 1 ((some .int)) 0 := ⟨(xws tw_790 rfl), (xws tw_78 rfl), by decide +kernel, by decide +kernel⟩
theorem vkX7_lay : vOK yX7_lay := ⟨(xws tw_788 rfl), (xws tw_789 rfl)⟩
theorem ykX7_isNote : yOK yX7_isNote cX7_isNote 2 ((some .boolean)) 1 := ⟨(xws tw_798 rfl), (xws tw_78 rfl), by decide +kernel, by decide +kernel⟩
theorem vkX7_isNote : vOK yX7_isNote := ⟨(xws tw_797 rfl), (xws tw_54 rfl)⟩
theorem ykX7_note : yOK yX7_note cX7_note 3 ((some .int)) 2 := ⟨(xws tw_794 rfl), (xws tw_78 rfl), by decide +kernel, by decide +kernel⟩
theorem vkX7_note : vOK yX7_note := ⟨(xws tw_792 rfl), (xws tw_793 rfl)⟩
theorem ykX7_notes : yOK yX7_notes cX7_notes 2 none 0 := ⟨(xws tw_809 rfl), (xws tw_78 rfl), by decide +kernel, by decide +kernel⟩
theorem vkX7_notes : vOK yX7_notes := ⟨(xws tw_808 rfl), (xws tw_55 rfl)⟩
theorem ykX7_isThere : yOK yX7_isThere cX7_isThere 2 ((some .boolean)) 2 := ⟨(xws tw_805 rfl), (xws tw_78 rfl), by decide +kernel, by decide +kernel⟩
theorem zkX7_isThere : Cond.static yX7_isThere ∈ xWS := (xws tw_804 rfl)
theorem ykX7_put : yOK yX7_put cX7_put 3 ((some .int)) 2 := ⟨(xws tw_802 rfl), (xws tw_78 rfl), by decide +kernel, by decide +kernel⟩
theorem vkX7_put : vOK yX7_put := ⟨(xws tw_800 rfl), (xws tw_801 rfl)⟩
theorem ykX7_take : yOK yX7_take cX7_take 2 ((some .int)) 1 := ⟨(xws tw_813 rfl), (xws tw_78 rfl), by decide +kernel, by decide +kernel⟩
theorem vkX7_take : vOK yX7_take := ⟨(xws tw_811 rfl), (xws tw_812 rfl)⟩
theorem ykX7_isShift : yOK yX7_isShift cX7_isShift 3 ((some .boolean)) 2 := ⟨(xws tw_824 rfl), (xws tw_78 rfl), by decide +kernel, by decide +kernel⟩
theorem vkX7_isShift : vOK yX7_isShift := ⟨(xws tw_823 rfl), (xws tw_56 rfl)⟩
theorem ykX7_shift : yOK yX7_shift cX7_shift 6 ((some .int)) 3 := ⟨(xws tw_820 rfl), (xws tw_78 rfl), by decide +kernel, by decide +kernel⟩
theorem vkX7_shift : vOK yX7_shift := ⟨(xws tw_818 rfl), (xws tw_819 rfl)⟩
theorem ykX7_shiftAll : yOK yX7_shiftAll cX7_shiftAll 4 ((some .int)) 2 := ⟨(xws tw_828 rfl), (xws tw_78 rfl), by decide +kernel, by decide +kernel⟩
theorem vkX7_shiftAll : vOK yX7_shiftAll := ⟨(xws tw_826 rfl), (xws tw_827 rfl)⟩
theorem ykX7_mode : yOK yX7_mode cX7_mode 3 ((some .int)) 1 := ⟨(xws tw_832 rfl), (xws tw_78 rfl), by decide +kernel, by decide +kernel⟩
theorem vkX7_mode : vOK yX7_mode := ⟨(xws tw_830 rfl), (xws tw_831 rfl)⟩
theorem ykX7_undo : yOK yX7_undo cX7_undo 1 ((some .int)) 0 := ⟨(xws tw_836 rfl), (xws tw_78 rfl), by decide +kernel, by decide +kernel⟩
theorem vkX7_undo : vOK yX7_undo := ⟨(xws tw_834 rfl), (xws tw_835 rfl)⟩
theorem ykX7_standsAt : yOK yX7_standsAt cX7_standsAt 3 ((some .int)) 2 := ⟨(xws tw_862 rfl), (xws tw_78 rfl), by decide +kernel, by decide +kernel⟩
theorem vkX7_standsAt : vOK yX7_standsAt := ⟨(xws tw_861 rfl), (xws tw_60 rfl)⟩
theorem ykX7_metBy : yOK yX7_metBy cX7_metBy 8 ((some .int)) 4 := ⟨(xws tw_858 rfl), (xws tw_78 rfl), by decide +kernel, by decide +kernel⟩
theorem vkX7_metBy : vOK yX7_metBy := ⟨(xws tw_857 rfl), (xws tw_59 rfl)⟩
theorem ykX7_firstPitch : yOK yX7_firstPitch cX7_firstPitch 1 ((some .int)) 0 := ⟨(xws tw_854 rfl), (xws tw_78 rfl), by decide +kernel, by decide +kernel⟩
theorem vkX7_firstPitch : vOK yX7_firstPitch := ⟨(xws tw_853 rfl), (xws tw_58 rfl)⟩
theorem ykX7_lays : yOK yX7_lays cX7_lays 7 none 2 := ⟨(xws tw_847 rfl), (xws tw_78 rfl), by decide +kernel, by decide +kernel⟩
theorem vkX7_lays : vOK yX7_lays := ⟨(xws tw_846 rfl), (xws tw_57 rfl)⟩
theorem ykX7_looksAt : yOK yX7_looksAt cX7_looksAt 5 none 2 := ⟨(xws tw_885 rfl), (xws tw_78 rfl), by decide +kernel, by decide +kernel⟩
theorem vkX7_looksAt : vOK yX7_looksAt := ⟨(xws tw_884 rfl), (xws tw_63 rfl)⟩
theorem ykX7_gainOf : yOK yX7_gainOf cX7_gainOf 2 ((some .int)) 1 := ⟨(xws tw_889 rfl), (xws tw_78 rfl), by decide +kernel, by decide +kernel⟩
theorem vkX7_gainOf : vOK yX7_gainOf := ⟨(xws tw_888 rfl), (xws tw_64 rfl)⟩
theorem ykX7_isNew : yOK yX7_isNew cX7_isNew 3 ((some .boolean)) 1 := ⟨(xws tw_881 rfl), (xws tw_78 rfl), by decide +kernel, by decide +kernel⟩
theorem vkX7_isNew : vOK yX7_isNew := ⟨(xws tw_880 rfl), (xws tw_62 rfl)⟩
theorem ykX7_findsShapes : yOK yX7_findsShapes cX7_findsShapes 4 none 2 := ⟨(xws tw_874 rfl), (xws tw_78 rfl), by decide +kernel, by decide +kernel⟩
theorem vkX7_findsShapes : vOK yX7_findsShapes := ⟨(xws tw_873 rfl), (xws tw_61 rfl)⟩
theorem ykX7_findsBest : yOK yX7_findsBest cX7_findsBest 5 none 2 := ⟨(xws tw_901 rfl), (xws tw_78 rfl), by decide +kernel, by decide +kernel⟩
theorem vkX7_findsBest : vOK yX7_findsBest := ⟨(xws tw_900 rfl), (xws tw_65 rfl)⟩
theorem ykX7_allOf : yOK yX7_allOf cX7_allOf 1 ((some .int)) 1 := ⟨(xws tw_843 rfl), (xws tw_78 rfl), by decide +kernel, by decide +kernel⟩
theorem zkX7_allOf : Cond.static yX7_allOf ∈ xWS := (xws tw_842 rfl)
theorem ykX7_largest : yOK yX7_largest cX7_largest 3 ((some .int)) 2 := ⟨(xws tw_840 rfl), (xws tw_78 rfl), by decide +kernel, by decide +kernel⟩
theorem vkX7_largest : vOK yX7_largest := ⟨(xws tw_838 rfl), (xws tw_839 rfl)⟩
theorem ykX7_meets : yOK yX7_meets cX7_meets 4 ((some .int)) 3 := ⟨(xws tw_866 rfl), (xws tw_78 rfl), by decide +kernel, by decide +kernel⟩
theorem vkX7_meets : vOK yX7_meets := ⟨(xws tw_864 rfl), (xws tw_865 rfl)⟩
theorem ykX7_shape : yOK yX7_shape cX7_shape 4 ((some .int)) 2 := ⟨(xws tw_870 rfl), (xws tw_78 rfl), by decide +kernel, by decide +kernel⟩
theorem vkX7_shape : vOK yX7_shape := ⟨(xws tw_868 rfl), (xws tw_869 rfl)⟩
theorem ykX7_place : yOK yX7_place cX7_place 5 ((some .int)) 2 := ⟨(xws tw_893 rfl), (xws tw_78 rfl), by decide +kernel, by decide +kernel⟩
theorem vkX7_place : vOK yX7_place := ⟨(xws tw_891 rfl), (xws tw_892 rfl)⟩
theorem ykX7_best : yOK yX7_best cX7_best 2 ((some .int)) 1 := ⟨(xws tw_897 rfl), (xws tw_78 rfl), by decide +kernel, by decide +kernel⟩
theorem vkX7_best : vOK yX7_best := ⟨(xws tw_895 rfl), (xws tw_896 rfl)⟩
theorem ykX7_isParted : yOK yX7_isParted cX7_isParted 2 none 1 := ⟨(xws tw_909 rfl), (xws tw_78 rfl), by decide +kernel, by decide +kernel⟩
theorem vkX7_isParted : vOK yX7_isParted := ⟨(xws tw_908 rfl), (xws tw_66 rfl)⟩
theorem ykX7_parted : yOK yX7_parted cX7_parted 3 ((some .int)) 2 := ⟨(xws tw_905 rfl), (xws tw_78 rfl), by decide +kernel, by decide +kernel⟩
theorem vkX7_parted : vOK yX7_parted := ⟨(xws tw_903 rfl), (xws tw_904 rfl)⟩
theorem ykX7_parting : yOK yX7_parting cX7_parting 2 ((some .int)) 1 := ⟨(xws tw_913 rfl), (xws tw_78 rfl), by decide +kernel, by decide +kernel⟩
theorem vkX7_parting : vOK yX7_parting := ⟨(xws tw_911 rfl), (xws tw_912 rfl)⟩
theorem ykX7_fewest : yOK yX7_fewest cX7_fewest 6 ((some .int)) 1 := ⟨(xws tw_921 rfl), (xws tw_78 rfl), by decide +kernel, by decide +kernel⟩
theorem vkX7_fewest : vOK yX7_fewest := ⟨(xws tw_920 rfl), (xws tw_67 rfl)⟩
theorem ykX7_shapes : yOK yX7_shapes cX7_shapes 4 ((some .int)) 1 := ⟨(xws tw_917 rfl), (xws tw_78 rfl), by decide +kernel, by decide +kernel⟩
theorem vkX7_shapes : vOK yX7_shapes := ⟨(xws tw_915 rfl), (xws tw_916 rfl)⟩
theorem ykX7_link : yOK yX7_link cX7_link 6 ((some .int)) 3 := ⟨(xws tw_925 rfl), (xws tw_78 rfl), by decide +kernel, by decide +kernel⟩
theorem vkX7_link : vOK yX7_link := ⟨(xws tw_923 rfl), (xws tw_924 rfl)⟩
theorem ykX7_better : yOK yX7_better cX7_better 8 ((some .int)) 1 := ⟨(xws tw_929 rfl), (xws tw_78 rfl), by decide +kernel, by decide +kernel⟩
theorem vkX7_better : vOK yX7_better := ⟨(xws tw_927 rfl), (xws tw_928 rfl)⟩
theorem ykX7_happens : yOK yX7_happens cX7_happens 5 none 1 := ⟨(xws tw_940 rfl), (xws tw_78 rfl), by decide +kernel, by decide +kernel⟩
theorem vkX7_happens : vOK yX7_happens := ⟨(xws tw_939 rfl), (xws tw_68 rfl)⟩
theorem ykX7_day : yOK yX7_day cX7_day 7 ((some .int)) 3 := ⟨(xws tw_933 rfl), (xws tw_78 rfl), by decide +kernel, by decide +kernel⟩
theorem vkX7_day : vOK yX7_day := ⟨(xws tw_931 rfl), (xws tw_932 rfl)⟩
theorem ykX7_keep : yOK yX7_keep cX7_keep 1 ((some .int)) 0 := ⟨(xws tw_944 rfl), (xws tw_78 rfl), by decide +kernel, by decide +kernel⟩
theorem vkX7_keep : vOK yX7_keep := ⟨(xws tw_942 rfl), (xws tw_943 rfl)⟩
theorem ykX7_back : yOK yX7_back cX7_back 1 ((some .int)) 0 := ⟨(xws tw_948 rfl), (xws tw_78 rfl), by decide +kernel, by decide +kernel⟩
theorem vkX7_back : vOK yX7_back := ⟨(xws tw_946 rfl), (xws tw_947 rfl)⟩
theorem ykX7_count : yOK yX7_count cX7_count 2 ((some .int)) 1 := ⟨(xws tw_952 rfl), (xws tw_78 rfl), by decide +kernel, by decide +kernel⟩
theorem vkX7_count : vOK yX7_count := ⟨(xws tw_950 rfl), (xws tw_951 rfl)⟩
theorem ykJ6_bitCount_0f7a4 : yOK yJ6_bitCount_0f7a4 cJ6_bitCount_0f7a4 1 ((some .int)) 1 := ⟨(xws tw_545 rfl), (xws tw_81 rfl), by decide +kernel, by decide +kernel⟩
theorem zkJ6_bitCount_0f7a4 : Cond.static yJ6_bitCount_0f7a4 ∈ xWS := (xws tw_544 rfl)
theorem ykJ9_floorMod_7cf53 : yOK yJ9_floorMod_7cf53 cJ9_floorMod_7cf53 3 ((some .int)) 2 := ⟨(xws tw_482 rfl), (xws tw_74 rfl), by decide +kernel, by decide +kernel⟩
theorem zkJ9_floorMod_7cf53 : Cond.static yJ9_floorMod_7cf53 ∈ xWS := (xws tw_481 rfl)
theorem ykJ9_max_7cf53 : yOK yJ9_max_7cf53 cJ9_max_7cf53 2 ((some .int)) 2 := ⟨(xws tw_138 rfl), (xws tw_74 rfl), by decide +kernel, by decide +kernel⟩
theorem zkJ9_max_7cf53 : Cond.static yJ9_max_7cf53 ∈ xWS := (xws tw_137 rfl)
theorem ykJ7_fill_53178 : yOK yJ7_fill_53178 cJ7_fill_53178 4 none 2 := ⟨(xws tw_465 rfl), (xws tw_80 rfl), by decide +kernel, by decide +kernel⟩
theorem zkJ7_fill_53178 : Cond.static yJ7_fill_53178 ∈ xWS := (xws tw_464 rfl)
theorem lk_L_9 : lkOK RL 9 yX6_init := Or.inl (xws tw_84 rfl)
theorem lk_X6_3 : lkOK RX6 3 objectInit := Or.inl (xws tw_87 rfl)
theorem lk_X6_11 : lkOK RX6 11 yX4_init := Or.inr ⟨_, List.mem_of_getElem? tw_92⟩
theorem lk_X4_3 : lkOK RX4 3 objectInit := Or.inl (xws tw_95 rfl)
theorem lk_X6_18 : lkOK RX6 18 yX2_init := Or.inr ⟨_, List.mem_of_getElem? tw_110⟩
theorem lk_X2_3 : lkOK RX2 3 objectInit := Or.inl (xws tw_113 rfl)
theorem lk_X6_28 : lkOK RX6 28 yX3_init := Or.inr ⟨_, List.mem_of_getElem? tw_132⟩
theorem lk_X3_1 : lkOK RX3 1 objectInit := Or.inl (xws tw_135 rfl)
theorem lk_X3_7 : lkOK RX3 7 Lib.Math.max.name := Or.inl (xws tw_136 rfl)
theorem lk_X3_21 : lkOK RX3 21 yX2_init := Or.inr ⟨_, List.mem_of_getElem? tw_141⟩
theorem lk_X6_40 : lkOK RX6 40 yX5_init := Or.inr ⟨_, List.mem_of_getElem? tw_152⟩
theorem lk_X5_3 : lkOK RX5 3 objectInit := Or.inl (xws tw_155 rfl)
theorem lk_X6_50 : lkOK RX6 50 yX1_init := Or.inr ⟨_, List.mem_of_getElem? tw_205⟩
theorem lk_X1_3 : lkOK RX1 3 objectInit := Or.inl (xws tw_208 rfl)
theorem lk_X6_57 : lkOK RX6 57 yX0_init := Or.inr ⟨_, List.mem_of_getElem? tw_236⟩
theorem lk_X0_3 : lkOK RX0 3 objectInit := Or.inl (xws tw_239 rfl)
theorem lk_X6_69 : lkOK RX6 69 yX6_codeOf := Or.inl (xws tw_251 rfl)
theorem lk_X6_73 : lkOK RX6 73 yX2_insert := Or.inr ⟨_, List.mem_of_getElem? tw_254⟩
theorem lk_L_13 : lkOK RL 13 yX6_write := Or.inl (xws tw_298 rfl)
theorem lk_X6_77 : lkOK RX6 77 yX4_append := Or.inr ⟨_, List.mem_of_getElem? tw_302⟩
theorem lk_L_18 : lkOK RL 18 yX6_wipe := Or.inl (xws tw_306 rfl)
theorem lk_L_23 : lkOK RL 23 yX6_fault := Or.inl (xws tw_310 rfl)
theorem lk_X6_85 : lkOK RX6 85 yX4_readInto := Or.inr ⟨_, List.mem_of_getElem? tw_314⟩
theorem lk_X4_30 : lkOK RX4 30 yX4_readItem := Or.inl (xws tw_318 rfl)
theorem lk_X4_34 : lkOK RX4 34 yX4_skip := Or.inl (xws tw_322 rfl)
theorem lk_X4_38 : lkOK RX4 38 yX4_readNote := Or.inl (xws tw_326 rfl)
theorem lk_X4_44 : lkOK RX4 44 yX4_readNumber := Or.inl (xws tw_330 rfl)
theorem lk_X4_63 : lkOK RX4 63 yX4_isFigure := Or.inl (xws tw_334 rfl)
theorem lk_X4_67 : lkOK RX4 67 Lib.Math.max.name := Or.inl (xws tw_338 rfl)
theorem lk_X4_48 : lkOK RX4 48 yX6_isWithin := Or.inr ⟨_, List.mem_of_getElem? tw_339⟩
theorem lk_X4_52 : lkOK RX4 52 yX6_codeOf := Or.inr ⟨_, List.mem_of_getElem? tw_342⟩
theorem lk_X4_56 : lkOK RX4 56 yX2_numberOf := Or.inr ⟨_, List.mem_of_getElem? tw_343⟩
theorem lk_X4_60 : lkOK RX4 60 yX2_insert := Or.inr ⟨_, List.mem_of_getElem? tw_347⟩
theorem lk_X4_41 : lkOK RX4 41 yX4_readManner := Or.inl (xws tw_348 rfl)
theorem lk_L_27 : lkOK RL 27 yX6_lay := Or.inl (xws tw_352 rfl)
theorem lk_X6_92 : lkOK RX6 92 yX2_copyFrom := Or.inr ⟨_, List.mem_of_getElem? tw_356⟩
theorem lk_X2_19 : lkOK RX2 19 arraycopyName := Or.inl (xws tw_360 rfl)
theorem lk_X6_97 : lkOK RX6 97 yX6_forgetFindings := Or.inl (xws tw_363 rfl)
theorem lk_L_31 : lkOK RL 31 yX6_note := Or.inl (xws tw_367 rfl)
theorem lk_X6_100 : lkOK RX6 100 yX6_isNote := Or.inl (xws tw_371 rfl)
theorem lk_X6_103 : lkOK RX6 103 yX2_timeOf := Or.inr ⟨_, List.mem_of_getElem? tw_375⟩
theorem lk_X6_106 : lkOK RX6 106 yX2_pitchOf := Or.inr ⟨_, List.mem_of_getElem? tw_379⟩
theorem lk_L_36 : lkOK RL 36 yX6_put := Or.inl (xws tw_383 rfl)
theorem lk_X6_109 : lkOK RX6 109 yX6_isWithin := Or.inl (xws tw_387 rfl)
theorem lk_X6_113 : lkOK RX6 113 yX2_numberOf := Or.inr ⟨_, List.mem_of_getElem? tw_388⟩
theorem lk_X6_116 : lkOK RX6 116 yX6_beginAct := Or.inl (xws tw_389 rfl)
theorem lk_X6_238 : lkOK RX6 238 yX3_push := Or.inr ⟨_, List.mem_of_getElem? tw_393⟩
theorem lk_X3_26 : lkOK RX3 26 yX3_dropOldest := Or.inl (xws tw_397 rfl)
theorem lk_X3_29 : lkOK RX3 29 yX2_copyFrom := Or.inr ⟨_, List.mem_of_getElem? tw_401⟩
theorem lk_L_40 : lkOK RL 40 yX6_take := Or.inl (xws tw_402 rfl)
theorem lk_X6_119 : lkOK RX6 119 yX2_remove := Or.inr ⟨_, List.mem_of_getElem? tw_406⟩
theorem lk_L_44 : lkOK RL 44 yX6_shift := Or.inl (xws tw_410 rfl)
theorem lk_X6_122 : lkOK RX6 122 yX6_isMove := Or.inl (xws tw_414 rfl)
theorem lk_X6_138 : lkOK RX6 138 yX6_isShift := Or.inl (xws tw_418 rfl)
theorem lk_X6_125 : lkOK RX6 125 yX6_staysWithin := Or.inl (xws tw_422 rfl)
theorem lk_L_49 : lkOK RL 49 yX6_shiftAll := Or.inl (xws tw_426 rfl)
theorem lk_X6_129 : lkOK RX6 129 yX2_moveAll := Or.inr ⟨_, List.mem_of_getElem? tw_430⟩
theorem lk_L_53 : lkOK RL 53 yX6_mode := Or.inl (xws tw_434 rfl)
theorem lk_L_57 : lkOK RL 57 yX6_undo := Or.inl (xws tw_438 rfl)
theorem lk_X6_135 : lkOK RX6 135 yX3_popInto := Or.inr ⟨_, List.mem_of_getElem? tw_442⟩
theorem lk_L_61 : lkOK RL 61 yX6_largest := Or.inl (xws tw_446 rfl)
theorem lk_X6_141 : lkOK RX6 141 yX6_wholeSearch := Or.inl (xws tw_450 rfl)
theorem lk_X6_167 : lkOK RX6 167 yX2_allNotes := Or.inr ⟨_, List.mem_of_getElem? tw_454⟩
theorem lk_X6_234 : lkOK RX6 234 yX5_lookOver := Or.inr ⟨_, List.mem_of_getElem? tw_458⟩
theorem lk_X5_43 : lkOK RX5 43 yX2_allNotes := Or.inr ⟨_, List.mem_of_getElem? tw_462⟩
theorem lk_X5_50 : lkOK RX5 50 yJ7_fill_53178 := Or.inl (xws tw_463 rfl)
theorem lk_X5_59 : lkOK RX5 59 yX2_timeOf := Or.inr ⟨_, List.mem_of_getElem? tw_466⟩
theorem lk_X5_63 : lkOK RX5 63 yX2_pitchOf := Or.inr ⟨_, List.mem_of_getElem? tw_467⟩
theorem lk_X5_66 : lkOK RX5 66 yX5_has := Or.inl (xws tw_468 rfl)
theorem lk_X5_70 : lkOK RX5 70 yX6_codeOf := Or.inr ⟨_, List.mem_of_getElem? tw_471⟩
theorem lk_X5_74 : lkOK RX5 74 yX5_findLargests := Or.inl (xws tw_472 rfl)
theorem lk_X5_83 : lkOK RX5 83 yX5_enterPair := Or.inl (xws tw_476 rfl)
theorem lk_X5_87 : lkOK RX5 87 yJ9_floorMod_7cf53 := Or.inl (xws tw_480 rfl)
theorem lk_X5_92 : lkOK RX5 92 yX5_enter := Or.inl (xws tw_483 rfl)
theorem lk_X5_96 : lkOK RX5 96 yX5_isHeld := Or.inl (xws tw_487 rfl)
theorem lk_X5_99 : lkOK RX5 99 yX5_shiftOf := Or.inl (xws tw_490 rfl)
theorem lk_X5_77 : lkOK RX5 77 yX5_findWideShifts := Or.inl (xws tw_493 rfl)
theorem lk_X5_105 : lkOK RX5 105 yX5_hasTwo := Or.inl (xws tw_497 rfl)
theorem lk_X5_80 : lkOK RX5 80 yX5_findShapes := Or.inl (xws tw_500 rfl)
theorem lk_X5_112 : lkOK RX5 112 yX5_isShape := Or.inl (xws tw_504 rfl)
theorem lk_X5_115 : lkOK RX5 115 yX5_measureShape := Or.inl (xws tw_508 rfl)
theorem lk_X5_119 : lkOK RX5 119 yX5_timePart := Or.inl (xws tw_512 rfl)
theorem lk_X5_122 : lkOK RX5 122 yX5_pitchPart := Or.inl (xws tw_515 rfl)
theorem lk_X5_125 : lkOK RX5 125 yX5_met := Or.inl (xws tw_518 rfl)
theorem lk_X5_129 : lkOK RX5 129 yX5_numberAt := Or.inl (xws tw_522 rfl)
theorem lk_X6_145 : lkOK RX6 145 yX5_largestOf := Or.inr ⟨_, List.mem_of_getElem? tw_526⟩
theorem lk_L_65 : lkOK RL 65 yX6_meets := Or.inl (xws tw_530 rfl)
theorem lk_X6_148 : lkOK RX6 148 yX5_met := Or.inr ⟨_, List.mem_of_getElem? tw_534⟩
theorem lk_L_69 : lkOK RL 69 yX6_shape := Or.inl (xws tw_535 rfl)
theorem lk_X6_164 : lkOK RX6 164 yX5_gainOf := Or.inr ⟨_, List.mem_of_getElem? tw_539⟩
theorem lk_X5_132 : lkOK RX5 132 yJ6_bitCount_0f7a4 := Or.inl (xws tw_543 rfl)
theorem lk_L_73 : lkOK RL 73 yX6_place := Or.inl (xws tw_549 rfl)
theorem lk_X6_171 : lkOK RX6 171 yX5_placesOf := Or.inr ⟨_, List.mem_of_getElem? tw_553⟩
theorem lk_X6_174 : lkOK RX6 174 yX5_placeOf := Or.inr ⟨_, List.mem_of_getElem? tw_557⟩
theorem lk_L_77 : lkOK RL 77 yX6_best := Or.inl (xws tw_561 rfl)
theorem lk_X6_177 : lkOK RX6 177 yX5_bestShape := Or.inr ⟨_, List.mem_of_getElem? tw_565⟩
theorem lk_X5_137 : lkOK RX5 137 yX5_isBetter := Or.inl (xws tw_569 rfl)
theorem lk_X5_140 : lkOK RX5 140 yX5_gainOf := Or.inl (xws tw_573 rfl)
theorem lk_L_81 : lkOK RL 81 yX6_parted := Or.inl (xws tw_574 rfl)
theorem lk_X6_180 : lkOK RX6 180 yX1_takeApart := Or.inr ⟨_, List.mem_of_getElem? tw_578⟩
theorem lk_X1_28 : lkOK RX1 28 yX2_allNotes := Or.inr ⟨_, List.mem_of_getElem? tw_582⟩
theorem lk_X1_37 : lkOK RX1 37 yX5_lookOver := Or.inr ⟨_, List.mem_of_getElem? tw_583⟩
theorem lk_X1_43 : lkOK RX1 43 yX5_bestShape := Or.inr ⟨_, List.mem_of_getElem? tw_584⟩
theorem lk_X1_46 : lkOK RX1 46 yX5_gainOf := Or.inr ⟨_, List.mem_of_getElem? tw_585⟩
theorem lk_X1_50 : lkOK RX1 50 yX1_setAside := Or.inl (xws tw_586 rfl)
theorem lk_X1_54 : lkOK RX1 54 yJ6_bitCount_0f7a4 := Or.inl (xws tw_590 rfl)
theorem lk_L_85 : lkOK RL 85 yX6_parting := Or.inl (xws tw_591 rfl)
theorem lk_L_89 : lkOK RL 89 yX6_shapes := Or.inl (xws tw_595 rfl)
theorem lk_X6_200 : lkOK RX6 200 yX0_fewestOf := Or.inr ⟨_, List.mem_of_getElem? tw_599⟩
theorem lk_X0_15 : lkOK RX0 15 yX0_gather := Or.inl (xws tw_603 rfl)
theorem lk_X0_36 : lkOK RX0 36 yX0_isWithinAnother := Or.inl (xws tw_607 rfl)
theorem lk_X0_19 : lkOK RX0 19 yX5_covered := Or.inr ⟨_, List.mem_of_getElem? tw_610⟩
theorem lk_X0_29 : lkOK RX0 29 yX0_isReached := Or.inl (xws tw_614 rfl)
theorem lk_X6_204 : lkOK RX6 204 yX5_covered := Or.inr ⟨_, List.mem_of_getElem? tw_617⟩
theorem lk_L_93 : lkOK RL 93 yX6_link := Or.inl (xws tw_618 rfl)
theorem lk_X6_207 : lkOK RX6 207 yJ9_floorMod_7cf53 := Or.inl (xws tw_622 rfl)
theorem lk_X6_212 : lkOK RX6 212 yJ6_bitCount_0f7a4 := Or.inl (xws tw_623 rfl)
theorem lk_L_97 : lkOK RL 97 yX6_better := Or.inl (xws tw_624 rfl)
theorem lk_X6_221 : lkOK RX6 221 yX6_findBetter := Or.inl (xws tw_628 rfl)
theorem lk_L_101 : lkOK RL 101 yX6_day := Or.inl (xws tw_632 rfl)
theorem lk_X6_230 : lkOK RX6 230 yX6_drawOnce := Or.inl (xws tw_636 rfl)
theorem lk_L_105 : lkOK RL 105 yX6_keep := Or.inl (xws tw_643 rfl)
theorem lk_L_109 : lkOK RL 109 yX6_back := Or.inl (xws tw_647 rfl)
theorem lk_L_113 : lkOK RL 113 yX6_count := Or.inl (xws tw_651 rfl)
theorem lk_L_12 : lkOK RL 12 yX7_init := Or.inl (xws tw_657 rfl)
theorem lk_X7_1 : lkOK RX7 1 objectInit := Or.inl (xws tw_660 rfl)
theorem lk_X7_46 : lkOK RX7 46 yX7_begins := Or.inl (xws tw_661 rfl)
theorem lk_X7_53 : lkOK RX7 53 yX7_puts := Or.inl (xws tw_665 rfl)
theorem lk_X7_49 : lkOK RX7 49 yX7_copies := Or.inl (xws tw_668 rfl)
theorem lk_L_17 : lkOK RL 17 yX7_write := Or.inl (xws tw_753 rfl)
theorem lk_X7_68 : lkOK RX7 68 yX7_in := Or.inl (xws tw_757 rfl)
theorem lk_L_22 : lkOK RL 22 yX7_wipe := Or.inl (xws tw_760 rfl)
theorem lk_L_26 : lkOK RL 26 yX7_fault := Or.inl (xws tw_764 rfl)
theorem lk_X7_83 : lkOK RX7 83 yX7_reading := Or.inl (xws tw_768 rfl)
theorem lk_X7_79 : lkOK RX7 79 yX7_readsItem := Or.inl (xws tw_772 rfl)
theorem lk_X7_64 : lkOK RX7 64 yX7_here := Or.inl (xws tw_776 rfl)
theorem lk_X7_72 : lkOK RX7 72 yX7_number := Or.inl (xws tw_780 rfl)
theorem lk_X7_76 : lkOK RX7 76 yX7_numberOf := Or.inl (xws tw_784 rfl)
theorem lk_L_30 : lkOK RL 30 yX7_lay := Or.inl (xws tw_787 rfl)
theorem lk_L_35 : lkOK RL 35 yX7_note := Or.inl (xws tw_791 rfl)
theorem lk_X7_92 : lkOK RX7 92 yX7_isNote := Or.inl (xws tw_795 rfl)
theorem lk_L_39 : lkOK RL 39 yX7_put := Or.inl (xws tw_799 rfl)
theorem lk_X7_96 : lkOK RX7 96 yX7_isThere := Or.inl (xws tw_803 rfl)
theorem lk_X7_100 : lkOK RX7 100 yX7_notes := Or.inl (xws tw_806 rfl)
theorem lk_L_43 : lkOK RL 43 yX7_take := Or.inl (xws tw_810 rfl)
theorem lk_X7_103 : lkOK RX7 103 yX7_leaves := Or.inl (xws tw_814 rfl)
theorem lk_L_48 : lkOK RL 48 yX7_shift := Or.inl (xws tw_817 rfl)
theorem lk_X7_107 : lkOK RX7 107 yX7_isShift := Or.inl (xws tw_821 rfl)
theorem lk_L_52 : lkOK RL 52 yX7_shiftAll := Or.inl (xws tw_825 rfl)
theorem lk_L_56 : lkOK RL 56 yX7_mode := Or.inl (xws tw_829 rfl)
theorem lk_L_60 : lkOK RL 60 yX7_undo := Or.inl (xws tw_833 rfl)
theorem lk_L_64 : lkOK RL 64 yX7_largest := Or.inl (xws tw_837 rfl)
theorem lk_X7_166 : lkOK RX7 166 yX7_allOf := Or.inl (xws tw_841 rfl)
theorem lk_X7_139 : lkOK RX7 139 yX7_lays := Or.inl (xws tw_844 rfl)
theorem lk_X7_116 : lkOK RX7 116 yX7_has := Or.inl (xws tw_848 rfl)
theorem lk_X7_119 : lkOK RX7 119 yX7_firstPitch := Or.inl (xws tw_851 rfl)
theorem lk_X7_122 : lkOK RX7 122 yX7_metBy := Or.inl (xws tw_855 rfl)
theorem lk_X7_113 : lkOK RX7 113 yX7_standsAt := Or.inl (xws tw_859 rfl)
theorem lk_L_68 : lkOK RL 68 yX7_meets := Or.inl (xws tw_863 rfl)
theorem lk_L_72 : lkOK RL 72 yX7_shape := Or.inl (xws tw_867 rfl)
theorem lk_X7_145 : lkOK RX7 145 yX7_findsShapes := Or.inl (xws tw_871 rfl)
theorem lk_X7_132 : lkOK RX7 132 yX7_bits := Or.inl (xws tw_875 rfl)
theorem lk_X7_142 : lkOK RX7 142 yX7_isNew := Or.inl (xws tw_878 rfl)
theorem lk_X7_157 : lkOK RX7 157 yX7_looksAt := Or.inl (xws tw_882 rfl)
theorem lk_X7_160 : lkOK RX7 160 yX7_gainOf := Or.inl (xws tw_886 rfl)
theorem lk_L_76 : lkOK RL 76 yX7_place := Or.inl (xws tw_890 rfl)
theorem lk_L_80 : lkOK RL 80 yX7_best := Or.inl (xws tw_894 rfl)
theorem lk_X7_170 : lkOK RX7 170 yX7_findsBest := Or.inl (xws tw_898 rfl)
theorem lk_L_84 : lkOK RL 84 yX7_parted := Or.inl (xws tw_902 rfl)
theorem lk_X7_182 : lkOK RX7 182 yX7_isParted := Or.inl (xws tw_906 rfl)
theorem lk_L_88 : lkOK RL 88 yX7_parting := Or.inl (xws tw_910 rfl)
theorem lk_L_92 : lkOK RL 92 yX7_shapes := Or.inl (xws tw_914 rfl)
theorem lk_X7_186 : lkOK RX7 186 yX7_fewest := Or.inl (xws tw_918 rfl)
theorem lk_L_96 : lkOK RL 96 yX7_link := Or.inl (xws tw_922 rfl)
theorem lk_L_100 : lkOK RL 100 yX7_better := Or.inl (xws tw_926 rfl)
theorem lk_L_104 : lkOK RL 104 yX7_day := Or.inl (xws tw_930 rfl)
theorem lk_X7_195 : lkOK RX7 195 yX7_happens := Or.inl (xws tw_937 rfl)
theorem lk_L_108 : lkOK RL 108 yX7_keep := Or.inl (xws tw_941 rfl)
theorem lk_L_112 : lkOK RL 112 yX7_back := Or.inl (xws tw_945 rfl)
theorem lk_L_116 : lkOK RL 116 yX7_count := Or.inl (xws tw_949 rfl)
theorem ini_L : Cond.initialized RL ∈ xWS := xws tw_69 rfl
theorem ini_X6 : Cond.initialized RX6 ∈ xWS := xws tw_70 rfl
theorem ini_X4 : Cond.initialized RX4 ∈ xWS := xws tw_71 rfl
theorem ini_X2 : Cond.initialized RX2 ∈ xWS := xws tw_72 rfl
theorem ini_X3 : Cond.initialized RX3 ∈ xWS := xws tw_73 rfl
theorem ini_J9 : Cond.initialized RJ9 ∈ xWS := xws tw_74 rfl
theorem ini_X5 : Cond.initialized RX5 ∈ xWS := xws tw_75 rfl
theorem ini_X1 : Cond.initialized RX1 ∈ xWS := xws tw_76 rfl
theorem ini_X0 : Cond.initialized RX0 ∈ xWS := xws tw_77 rfl
theorem ini_X7 : Cond.initialized RX7 ∈ xWS := xws tw_78 rfl
theorem ini_J10 : Cond.initialized RJ10 ∈ xWS := xws tw_79 rfl
theorem ini_J7 : Cond.initialized RJ7 ∈ xWS := xws tw_80 rfl
theorem ini_J6 : Cond.initialized RJ6 ∈ xWS := xws tw_81 rfl
theorem ck_L_7 : Cond.classLink RL 7 RX6 ∈ xWS := xws tw_82 rfl
theorem nw_X6 : Cond.instantiable RX6 13 ∈ xWS := xws tw_83 rfl
theorem ck_X6_9 : Cond.classLink RX6 9 RX4 ∈ xWS := xws tw_90 rfl
theorem nw_X4 : Cond.instantiable RX4 3 ∈ xWS := xws tw_91 rfl
theorem ck_X6_16 : Cond.classLink RX6 16 RX2 ∈ xWS := xws tw_108 rfl
theorem nw_X2 : Cond.instantiable RX2 3 ∈ xWS := xws tw_109 rfl
theorem ck_X6_26 : Cond.classLink RX6 26 RX3 ∈ xWS := xws tw_130 rfl
theorem nw_X3 : Cond.instantiable RX3 2 ∈ xWS := xws tw_131 rfl
theorem ck_X3_13 : Cond.classLink RX3 13 RX2 ∈ xWS := xws tw_139 rfl
theorem ck_X6_38 : Cond.classLink RX6 38 RX5 ∈ xWS := xws tw_150 rfl
theorem nw_X5 : Cond.instantiable RX5 12 ∈ xWS := xws tw_151 rfl
theorem ck_X6_48 : Cond.classLink RX6 48 RX1 ∈ xWS := xws tw_203 rfl
theorem nw_X1 : Cond.instantiable RX1 6 ∈ xWS := xws tw_204 rfl
theorem ck_X6_55 : Cond.classLink RX6 55 RX0 ∈ xWS := xws tw_234 rfl
theorem nw_X0 : Cond.instantiable RX0 2 ∈ xWS := xws tw_235 rfl
theorem cst_J6_265 : Cond.constant RJ6 265 (1431655765) ∈ xWS := xws tw_546 rfl
theorem cst_J6_266 : Cond.constant RJ6 266 (858993459) ∈ xWS := xws tw_547 rfl
theorem cst_J6_267 : Cond.constant RJ6 267 (252645135) ∈ xWS := xws tw_548 rfl
theorem cst_X6_244 : Cond.constantLong RX6 244 (7919) ∈ xWS := xws tw_640 rfl
theorem cst_X6_246 : Cond.constantLong RX6 246 (6151) ∈ xWS := xws tw_641 rfl
theorem cst_X6_248 : Cond.constantLong RX6 248 (65521) ∈ xWS := xws tw_642 rfl
theorem ck_L_10 : Cond.classLink RL 10 RX7 ∈ xWS := xws tw_655 rfl
theorem nw_X7 : Cond.instantiable RX7 27 ∈ xWS := xws tw_656 rfl
theorem cst_X7_189 : Cond.constantLong RX7 189 (7919) ∈ xWS := xws tw_934 rfl
theorem cst_X7_191 : Cond.constantLong RX7 191 (6151) ∈ xWS := xws tw_935 rfl
theorem cst_X7_193 : Cond.constantLong RX7 193 (65521) ∈ xWS := xws tw_936 rfl
theorem w_arrI : (Cond.arrayClass .int) ∈ xWS := (xws tw_107 rfl)
theorem w_oin : (Cond.instanceMethod objectInit) ∈ xWS := (xws tw_88 rfl)
theorem w_oco : (Cond.code objectInit ⟨#[0xb1]⟩ 1 none) ∈ xWS := (xws tw_89 rfl)
theorem w_mst : (Cond.static Lib.Math.max.name) ∈ xWS := (xws tw_137 rfl)
theorem w_min : (Cond.initialized "java/lang/Math") ∈ xWS := (xws tw_74 rfl)
theorem w_mco : (Cond.code Lib.Math.max.name Lib.Math.max.code 2 (some .int)) ∈ xWS := (xws tw_138 rfl)
theorem w_cna : (Cond.native arraycopyName) ∈ xWS := (xws tw_362 rfl)
theorem w_cst : (Cond.static arraycopyName) ∈ xWS := (xws tw_361 rfl)
theorem w_cin : (Cond.initialized "java/lang/System") ∈ xWS := (xws tw_79 rfl)
theorem w_over : (Cond.arrayOver (.object "ShiftedShapes$Piece")) ∈ lw_tbl := List.mem_of_getElem? tw_140
