/-! every method decodes as the data say -/
def e_okD (r : e_R) : Prop := ∀ q ∈ r.2.2.2.2.2.2, decode r.2.1 q.1 = .ok q.2
set_option maxRecDepth 100000 in
theorem e_dk0 : e_okD e_M0 := by unfold e_okD; decide +kernel
set_option maxRecDepth 100000 in
theorem e_dk1 : e_okD e_M1 := by unfold e_okD; decide +kernel
set_option maxRecDepth 100000 in
theorem e_dk2 : e_okD e_M2 := by unfold e_okD; decide +kernel
set_option maxRecDepth 100000 in
theorem e_dk3 : e_okD e_M3 := by unfold e_okD; decide +kernel
set_option maxRecDepth 100000 in
theorem e_dk4 : e_okD e_M4 := by unfold e_okD; decide +kernel
set_option maxRecDepth 100000 in
theorem e_dk5 : e_okD e_M5 := by unfold e_okD; decide +kernel
set_option maxRecDepth 100000 in
theorem e_dk6 : e_okD e_M6 := by unfold e_okD; decide +kernel
set_option maxRecDepth 100000 in
theorem e_dk7 : e_okD e_M7 := by unfold e_okD; decide +kernel
set_option maxRecDepth 100000 in
theorem e_dk8 : e_okD e_M8 := by unfold e_okD; decide +kernel
set_option maxRecDepth 100000 in
theorem e_dk9 : e_okD e_M9 := by unfold e_okD; decide +kernel
set_option maxRecDepth 100000 in
theorem e_dk10 : e_okD e_M10 := by unfold e_okD; decide +kernel
set_option maxRecDepth 100000 in
theorem e_dk11 : e_okD e_M11 := by unfold e_okD; decide +kernel
set_option maxRecDepth 100000 in
theorem e_dk12 : e_okD e_M12 := by unfold e_okD; decide +kernel
set_option maxRecDepth 100000 in
theorem e_dk13 : e_okD e_M13 := by unfold e_okD; decide +kernel
set_option maxRecDepth 100000 in
theorem e_dk14 : e_okD e_M14 := by unfold e_okD; decide +kernel
set_option maxRecDepth 100000 in
theorem e_dk15 : e_okD e_M15 := by unfold e_okD; decide +kernel
set_option maxRecDepth 100000 in
theorem e_dk16 : e_okD e_M16 := by unfold e_okD; decide +kernel
set_option maxRecDepth 100000 in
theorem e_dk17 : e_okD e_M17 := by unfold e_okD; decide +kernel
set_option maxRecDepth 100000 in
theorem e_dk18 : e_okD e_M18 := by unfold e_okD; decide +kernel
set_option maxRecDepth 100000 in
theorem e_dk19 : e_okD e_M19 := by unfold e_okD; decide +kernel
set_option maxRecDepth 100000 in
theorem e_dk20 : e_okD e_M20 := by unfold e_okD; decide +kernel
set_option maxRecDepth 100000 in
theorem e_dk21 : e_okD e_M21 := by unfold e_okD; decide +kernel
set_option maxRecDepth 100000 in
theorem e_dk22 : e_okD e_M22 := by unfold e_okD; decide +kernel
set_option maxRecDepth 100000 in
theorem e_dk23 : e_okD e_M23 := by unfold e_okD; decide +kernel
set_option maxRecDepth 100000 in
theorem e_dk24 : e_okD e_M24 := by unfold e_okD; decide +kernel
set_option maxRecDepth 100000 in
theorem e_dk25 : e_okD e_M25 := by unfold e_okD; decide +kernel
set_option maxRecDepth 100000 in
theorem e_dk26 : e_okD e_M26 := by unfold e_okD; decide +kernel
set_option maxRecDepth 100000 in
theorem e_dk27 : e_okD e_M27 := by unfold e_okD; decide +kernel
set_option maxRecDepth 100000 in
theorem e_dk28 : e_okD e_M28 := by unfold e_okD; decide +kernel
set_option maxRecDepth 100000 in
theorem e_dk29 : e_okD e_M29 := by unfold e_okD; decide +kernel
set_option maxRecDepth 100000 in
theorem e_dk30 : e_okD e_M30 := by unfold e_okD; decide +kernel
set_option maxRecDepth 100000 in
theorem e_dk31 : e_okD e_M31 := by unfold e_okD; decide +kernel
set_option maxRecDepth 100000 in
theorem e_dk32 : e_okD e_M32 := by unfold e_okD; decide +kernel
set_option maxRecDepth 100000 in
theorem e_dk33 : e_okD e_M33 := by unfold e_okD; decide +kernel
set_option maxRecDepth 100000 in
theorem e_dk34 : e_okD e_M34 := by unfold e_okD; decide +kernel
set_option maxRecDepth 100000 in
theorem e_dk35 : e_okD e_M35 := by unfold e_okD; decide +kernel
set_option maxRecDepth 100000 in
theorem e_dk36 : e_okD e_M36 := by unfold e_okD; decide +kernel
set_option maxRecDepth 100000 in
theorem e_dk37 : e_okD e_M37 := by unfold e_okD; decide +kernel
set_option maxRecDepth 100000 in
theorem e_dk38 : e_okD e_M38 := by unfold e_okD; decide +kernel
set_option maxRecDepth 100000 in
theorem e_dk39 : e_okD e_M39 := by unfold e_okD; decide +kernel
set_option maxRecDepth 100000 in
theorem e_dk40 : e_okD e_M40 := by unfold e_okD; decide +kernel
set_option maxRecDepth 100000 in
theorem e_dk41 : e_okD e_M41 := by unfold e_okD; decide +kernel
set_option maxRecDepth 100000 in
theorem e_dk42 : e_okD e_M42 := by unfold e_okD; decide +kernel
set_option maxRecDepth 100000 in
theorem e_dk43 : e_okD e_M43 := by unfold e_okD; decide +kernel
set_option maxRecDepth 100000 in
theorem e_dk44 : e_okD e_M44 := by unfold e_okD; decide +kernel
set_option maxRecDepth 100000 in
theorem e_dk45 : e_okD e_M45 := by unfold e_okD; decide +kernel
set_option maxRecDepth 100000 in
theorem e_dk46 : e_okD e_M46 := by unfold e_okD; decide +kernel
set_option maxRecDepth 100000 in
theorem e_dk47 : e_okD e_M47 := by unfold e_okD; decide +kernel
set_option maxRecDepth 100000 in
theorem e_dk48 : e_okD e_M48 := by unfold e_okD; decide +kernel
set_option maxRecDepth 100000 in
theorem e_dk49 : e_okD e_M49 := by unfold e_okD; decide +kernel
set_option maxRecDepth 100000 in
theorem e_dk50 : e_okD e_M50 := by unfold e_okD; decide +kernel
set_option maxRecDepth 100000 in
theorem e_dk51 : e_okD e_M51 := by unfold e_okD; decide +kernel
set_option maxRecDepth 100000 in
theorem e_dk52 : e_okD e_M52 := by unfold e_okD; decide +kernel
set_option maxRecDepth 100000 in
theorem e_dk53 : e_okD e_M53 := by unfold e_okD; decide +kernel
set_option maxRecDepth 100000 in
theorem e_dk54 : e_okD e_M54 := by unfold e_okD; decide +kernel
set_option maxRecDepth 100000 in
theorem e_dk55 : e_okD e_M55 := by unfold e_okD; decide +kernel
set_option maxRecDepth 100000 in
theorem e_dk56 : e_okD e_M56 := by unfold e_okD; decide +kernel
set_option maxRecDepth 100000 in
theorem e_dk57 : e_okD e_M57 := by unfold e_okD; decide +kernel
set_option maxRecDepth 100000 in
theorem e_dk58 : e_okD e_M58 := by unfold e_okD; decide +kernel
set_option maxRecDepth 100000 in
theorem e_dk59 : e_okD e_M59 := by unfold e_okD; decide +kernel
set_option maxRecDepth 100000 in
theorem e_dk60 : e_okD e_M60 := by unfold e_okD; decide +kernel
set_option maxRecDepth 100000 in
theorem e_dk61 : e_okD e_M61 := by unfold e_okD; decide +kernel
set_option maxRecDepth 100000 in
theorem e_dk62 : e_okD e_M62 := by unfold e_okD; decide +kernel
set_option maxRecDepth 100000 in
theorem e_dk63 : e_okD e_M63 := by unfold e_okD; decide +kernel
set_option maxRecDepth 100000 in
theorem e_dk64 : e_okD e_M64 := by unfold e_okD; decide +kernel
set_option maxRecDepth 100000 in
theorem e_dk65 : e_okD e_M65 := by unfold e_okD; decide +kernel
set_option maxRecDepth 100000 in
theorem e_dk66 : e_okD e_M66 := by unfold e_okD; decide +kernel
set_option maxRecDepth 100000 in
theorem e_dk67 : e_okD e_M67 := by unfold e_okD; decide +kernel
set_option maxRecDepth 100000 in
theorem e_dk68 : e_okD e_M68 := by unfold e_okD; decide +kernel
set_option maxRecDepth 100000 in
theorem e_dk69 : e_okD e_M69 := by unfold e_okD; decide +kernel
set_option maxRecDepth 100000 in
theorem e_dk70 : e_okD e_M70 := by unfold e_okD; decide +kernel
set_option maxRecDepth 100000 in
theorem e_dk71 : e_okD e_M71 := by unfold e_okD; decide +kernel
set_option maxRecDepth 100000 in
theorem e_dk72 : e_okD e_M72 := by unfold e_okD; decide +kernel
set_option maxRecDepth 100000 in
theorem e_dk73 : e_okD e_M73 := by unfold e_okD; decide +kernel
set_option maxRecDepth 100000 in
theorem e_dk74 : e_okD e_M74 := by unfold e_okD; decide +kernel
set_option maxRecDepth 100000 in
theorem e_dk75 : e_okD e_M75 := by unfold e_okD; decide +kernel
set_option maxRecDepth 100000 in
theorem e_dk76 : e_okD e_M76 := by unfold e_okD; decide +kernel
set_option maxRecDepth 100000 in
theorem e_dk77 : e_okD e_M77 := by unfold e_okD; decide +kernel
set_option maxRecDepth 100000 in
theorem e_dk78 : e_okD e_M78 := by unfold e_okD; decide +kernel
set_option maxRecDepth 100000 in
theorem e_dk79 : e_okD e_M79 := by unfold e_okD; decide +kernel
set_option maxRecDepth 100000 in
theorem e_dk80 : e_okD e_M80 := by unfold e_okD; decide +kernel
set_option maxRecDepth 100000 in
theorem e_dk81 : e_okD e_M81 := by unfold e_okD; decide +kernel
set_option maxRecDepth 100000 in
theorem e_dk82 : e_okD e_M82 := by unfold e_okD; decide +kernel
set_option maxRecDepth 100000 in
theorem e_dk83 : e_okD e_M83 := by unfold e_okD; decide +kernel
set_option maxRecDepth 100000 in
theorem e_dk84 : e_okD e_M84 := by unfold e_okD; decide +kernel
set_option maxRecDepth 100000 in
theorem e_dk85 : e_okD e_M85 := by unfold e_okD; decide +kernel
set_option maxRecDepth 100000 in
theorem e_dk86 : e_okD e_M86 := by unfold e_okD; decide +kernel
set_option maxRecDepth 100000 in
theorem e_dk87 : e_okD e_M87 := by unfold e_okD; decide +kernel
set_option maxRecDepth 100000 in
theorem e_dk88 : e_okD e_M88 := by unfold e_okD; decide +kernel
set_option maxRecDepth 100000 in
theorem e_dk89 : e_okD e_M89 := by unfold e_okD; decide +kernel
set_option maxRecDepth 100000 in
theorem e_dk90 : e_okD e_M90 := by unfold e_okD; decide +kernel
set_option maxRecDepth 100000 in
theorem e_dk91 : e_okD e_M91 := by unfold e_okD; decide +kernel
set_option maxRecDepth 100000 in
theorem e_dk92 : e_okD e_M92 := by unfold e_okD; decide +kernel
set_option maxRecDepth 100000 in
theorem e_dk93 : e_okD e_M93 := by unfold e_okD; decide +kernel
set_option maxRecDepth 100000 in
theorem e_dk94 : e_okD e_M94 := by unfold e_okD; decide +kernel
set_option maxRecDepth 100000 in
theorem e_dk95 : e_okD e_M95 := by unfold e_okD; decide +kernel
set_option maxRecDepth 100000 in
theorem e_dk96 : e_okD e_M96 := by unfold e_okD; decide +kernel
set_option maxRecDepth 100000 in
theorem e_dk97 : e_okD e_M97 := by unfold e_okD; decide +kernel
set_option maxRecDepth 100000 in
theorem e_dk98 : e_okD e_M98 := by unfold e_okD; decide +kernel
set_option maxRecDepth 100000 in
theorem e_dk99 : e_okD e_M99 := by unfold e_okD; decide +kernel
set_option maxRecDepth 100000 in
theorem e_dk100 : e_okD e_M100 := by unfold e_okD; decide +kernel
set_option maxRecDepth 100000 in
theorem e_dk101 : e_okD e_M101 := by unfold e_okD; decide +kernel
set_option maxRecDepth 100000 in
theorem e_dk102 : e_okD e_M102 := by unfold e_okD; decide +kernel
set_option maxRecDepth 100000 in
theorem e_dk103 : e_okD e_M103 := by unfold e_okD; decide +kernel
set_option maxRecDepth 100000 in
theorem e_dk104 : e_okD e_M104 := by unfold e_okD; decide +kernel
set_option maxRecDepth 100000 in
theorem e_dk105 : e_okD e_M105 := by unfold e_okD; decide +kernel
set_option maxRecDepth 100000 in
theorem e_dk106 : e_okD e_M106 := by unfold e_okD; decide +kernel
set_option maxRecDepth 100000 in
theorem e_dk107 : e_okD e_M107 := by unfold e_okD; decide +kernel
set_option maxRecDepth 100000 in
theorem e_dk108 : e_okD e_M108 := by unfold e_okD; decide +kernel
set_option maxRecDepth 100000 in
theorem e_dk109 : e_okD e_M109 := by unfold e_okD; decide +kernel
set_option maxRecDepth 100000 in
theorem e_dk110 : e_okD e_M110 := by unfold e_okD; decide +kernel
set_option maxRecDepth 100000 in
theorem e_dk111 : e_okD e_M111 := by unfold e_okD; decide +kernel
set_option maxRecDepth 100000 in
theorem e_dk112 : e_okD e_M112 := by unfold e_okD; decide +kernel
set_option maxRecDepth 100000 in
theorem e_dk113 : e_okD e_M113 := by unfold e_okD; decide +kernel
set_option maxRecDepth 100000 in
theorem e_dk114 : e_okD e_M114 := by unfold e_okD; decide +kernel
set_option maxRecDepth 100000 in
theorem e_dk115 : e_okD e_M115 := by unfold e_okD; decide +kernel
set_option maxRecDepth 100000 in
theorem e_dk116 : e_okD e_M116 := by unfold e_okD; decide +kernel
set_option maxRecDepth 100000 in
theorem e_dk117 : e_okD e_M117 := by unfold e_okD; decide +kernel
set_option maxRecDepth 100000 in
theorem e_dk118 : e_okD e_M118 := by unfold e_okD; decide +kernel
set_option maxRecDepth 100000 in
theorem e_dk119 : e_okD e_M119 := by unfold e_okD; decide +kernel
set_option maxRecDepth 100000 in
theorem e_dk120 : e_okD e_M120 := by unfold e_okD; decide +kernel
set_option maxRecDepth 100000 in
theorem e_dk121 : e_okD e_M121 := by unfold e_okD; decide +kernel
set_option maxRecDepth 100000 in
theorem e_dk122 : e_okD e_M122 := by unfold e_okD; decide +kernel
set_option maxRecDepth 100000 in
theorem e_dk123 : e_okD e_M123 := by unfold e_okD; decide +kernel
set_option maxRecDepth 100000 in
theorem e_dk124 : e_okD e_M124 := by unfold e_okD; decide +kernel
set_option maxRecDepth 100000 in
theorem e_dk125 : e_okD e_M125 := by unfold e_okD; decide +kernel
set_option maxRecDepth 100000 in
theorem e_dk126 : e_okD e_M126 := by unfold e_okD; decide +kernel
set_option maxRecDepth 100000 in
theorem e_dk127 : e_okD e_M127 := by unfold e_okD; decide +kernel
set_option maxRecDepth 100000 in
theorem e_dk128 : e_okD e_M128 := by unfold e_okD; decide +kernel
set_option maxRecDepth 100000 in
theorem e_dk129 : e_okD e_M129 := by unfold e_okD; decide +kernel
set_option maxRecDepth 100000 in
theorem e_dk130 : e_okD e_M130 := by unfold e_okD; decide +kernel
set_option maxRecDepth 100000 in
theorem e_dk131 : e_okD e_M131 := by unfold e_okD; decide +kernel
set_option maxRecDepth 100000 in
theorem e_dk132 : e_okD e_M132 := by unfold e_okD; decide +kernel
set_option maxRecDepth 100000 in
theorem e_dk133 : e_okD e_M133 := by unfold e_okD; decide +kernel
set_option maxRecDepth 100000 in
theorem e_dk134 : e_okD e_M134 := by unfold e_okD; decide +kernel
set_option maxRecDepth 100000 in
theorem e_dk135 : e_okD e_M135 := by unfold e_okD; decide +kernel
set_option maxRecDepth 100000 in
theorem e_dk136 : e_okD e_M136 := by unfold e_okD; decide +kernel
set_option maxRecDepth 100000 in
theorem e_dk137 : e_okD e_M137 := by unfold e_okD; decide +kernel
set_option maxRecDepth 100000 in
theorem e_dk138 : e_okD e_M138 := by unfold e_okD; decide +kernel
set_option maxRecDepth 100000 in
theorem e_dk139 : e_okD e_M139 := by unfold e_okD; decide +kernel
set_option maxRecDepth 100000 in
theorem e_dk140 : e_okD e_M140 := by unfold e_okD; decide +kernel
set_option maxRecDepth 100000 in
theorem e_dk141 : e_okD e_M141 := by unfold e_okD; decide +kernel
set_option maxRecDepth 100000 in
theorem e_dk142 : e_okD e_M142 := by unfold e_okD; decide +kernel
set_option maxRecDepth 100000 in
theorem e_dk143 : e_okD e_M143 := by unfold e_okD; decide +kernel
set_option maxRecDepth 100000 in
theorem e_dk144 : e_okD e_M144 := by unfold e_okD; decide +kernel
set_option maxRecDepth 100000 in
theorem e_dk145 : e_okD e_M145 := by unfold e_okD; decide +kernel
set_option maxRecDepth 100000 in
theorem e_dk146 : e_okD e_M146 := by unfold e_okD; decide +kernel
set_option maxRecDepth 100000 in
theorem e_dk147 : e_okD e_M147 := by unfold e_okD; decide +kernel
set_option maxRecDepth 100000 in
theorem e_dk148 : e_okD e_M148 := by unfold e_okD; decide +kernel
set_option maxRecDepth 100000 in
theorem e_dk149 : e_okD e_M149 := by unfold e_okD; decide +kernel
set_option maxRecDepth 100000 in
theorem e_dk150 : e_okD e_M150 := by unfold e_okD; decide +kernel
set_option maxRecDepth 100000 in
theorem e_dk151 : e_okD e_M151 := by unfold e_okD; decide +kernel
set_option maxRecDepth 100000 in
theorem e_dk152 : e_okD e_M152 := by unfold e_okD; decide +kernel
set_option maxRecDepth 100000 in
theorem e_dk153 : e_okD e_M153 := by unfold e_okD; decide +kernel
set_option maxRecDepth 100000 in
theorem e_dk154 : e_okD e_M154 := by unfold e_okD; decide +kernel
set_option maxRecDepth 100000 in
theorem e_dk155 : e_okD e_M155 := by unfold e_okD; decide +kernel
set_option maxRecDepth 100000 in
theorem e_dk156 : e_okD e_M156 := by unfold e_okD; decide +kernel
set_option maxRecDepth 100000 in
theorem e_dk157 : e_okD e_M157 := by unfold e_okD; decide +kernel
set_option maxRecDepth 100000 in
theorem e_dk158 : e_okD e_M158 := by unfold e_okD; decide +kernel
set_option maxRecDepth 100000 in
theorem e_dk159 : e_okD e_M159 := by unfold e_okD; decide +kernel
set_option maxRecDepth 100000 in
theorem e_dk160 : e_okD e_M160 := by unfold e_okD; decide +kernel
set_option maxRecDepth 100000 in
theorem e_dk161 : e_okD e_M161 := by unfold e_okD; decide +kernel
set_option maxRecDepth 100000 in
theorem e_dk162 : e_okD e_M162 := by unfold e_okD; decide +kernel
set_option maxRecDepth 100000 in
theorem e_dk163 : e_okD e_M163 := by unfold e_okD; decide +kernel
set_option maxRecDepth 100000 in
theorem e_dk164 : e_okD e_M164 := by unfold e_okD; decide +kernel
set_option maxRecDepth 100000 in
theorem e_dk165 : e_okD e_M165 := by unfold e_okD; decide +kernel
set_option maxRecDepth 100000 in
theorem e_dk166 : e_okD e_M166 := by unfold e_okD; decide +kernel
set_option maxRecDepth 100000 in
theorem e_dk167 : e_okD e_M167 := by unfold e_okD; decide +kernel
set_option maxRecDepth 100000 in
theorem e_dk168 : e_okD e_M168 := by unfold e_okD; decide +kernel
set_option maxRecDepth 100000 in
theorem e_dk169 : e_okD e_M169 := by unfold e_okD; decide +kernel
set_option maxRecDepth 100000 in
theorem e_dk170 : e_okD e_M170 := by unfold e_okD; decide +kernel
set_option maxRecDepth 100000 in
theorem e_dk171 : e_okD e_M171 := by unfold e_okD; decide +kernel
set_option maxRecDepth 100000 in
theorem e_dk172 : e_okD e_M172 := by unfold e_okD; decide +kernel
set_option maxRecDepth 100000 in
theorem e_dk173 : e_okD e_M173 := by unfold e_okD; decide +kernel
set_option maxRecDepth 100000 in
theorem e_dk174 : e_okD e_M174 := by unfold e_okD; decide +kernel
set_option maxRecDepth 100000 in
theorem e_dk175 : e_okD e_M175 := by unfold e_okD; decide +kernel
set_option maxRecDepth 100000 in
theorem e_dk176 : e_okD e_M176 := by unfold e_okD; decide +kernel
set_option maxRecDepth 100000 in
theorem e_dk177 : e_okD e_M177 := by unfold e_okD; decide +kernel
set_option maxRecDepth 100000 in
theorem e_dk178 : e_okD e_M178 := by unfold e_okD; decide +kernel
set_option maxRecDepth 100000 in
theorem e_dk179 : e_okD e_M179 := by unfold e_okD; decide +kernel
set_option maxRecDepth 100000 in
theorem e_dk180 : e_okD e_M180 := by unfold e_okD; decide +kernel
set_option maxRecDepth 100000 in
theorem e_dk181 : e_okD e_M181 := by unfold e_okD; decide +kernel
set_option maxRecDepth 100000 in
theorem e_dk182 : e_okD e_M182 := by unfold e_okD; decide +kernel
set_option maxRecDepth 100000 in
theorem e_dk183 : e_okD e_M183 := by unfold e_okD; decide +kernel
set_option maxRecDepth 100000 in
theorem e_dk184 : e_okD e_M184 := by unfold e_okD; decide +kernel
set_option maxRecDepth 100000 in
theorem e_dk185 : e_okD e_M185 := by unfold e_okD; decide +kernel
set_option maxRecDepth 100000 in
theorem e_dk186 : e_okD e_M186 := by unfold e_okD; decide +kernel
set_option maxRecDepth 100000 in
theorem e_dk187 : e_okD e_M187 := by unfold e_okD; decide +kernel
set_option maxRecDepth 100000 in
theorem e_dk188 : e_okD e_M188 := by unfold e_okD; decide +kernel
set_option maxRecDepth 100000 in
theorem e_dk189 : e_okD e_M189 := by unfold e_okD; decide +kernel
set_option maxRecDepth 100000 in
theorem e_dk190 : e_okD e_M190 := by unfold e_okD; decide +kernel
set_option maxRecDepth 100000 in
theorem e_dk191 : e_okD e_M191 := by unfold e_okD; decide +kernel
set_option maxRecDepth 100000 in
theorem e_dk192 : e_okD e_M192 := by unfold e_okD; decide +kernel
set_option maxRecDepth 100000 in
theorem e_dk193 : e_okD e_M193 := by unfold e_okD; decide +kernel
set_option maxRecDepth 100000 in
theorem e_dk194 : e_okD e_M194 := by unfold e_okD; decide +kernel
set_option maxRecDepth 100000 in
theorem e_dk195 : e_okD e_M195 := by unfold e_okD; decide +kernel
set_option maxRecDepth 100000 in
theorem e_dk196 : e_okD e_M196 := by unfold e_okD; decide +kernel
set_option maxRecDepth 100000 in
theorem e_dk197 : e_okD e_M197 := by unfold e_okD; decide +kernel
set_option maxRecDepth 100000 in
theorem e_dk198 : e_okD e_M198 := by unfold e_okD; decide +kernel
set_option maxRecDepth 100000 in
theorem e_dk199 : e_okD e_M199 := by unfold e_okD; decide +kernel
set_option maxRecDepth 100000 in
theorem e_dk200 : e_okD e_M200 := by unfold e_okD; decide +kernel
set_option maxRecDepth 100000 in
theorem e_dk201 : e_okD e_M201 := by unfold e_okD; decide +kernel
set_option maxRecDepth 100000 in
theorem e_dk202 : e_okD e_M202 := by unfold e_okD; decide +kernel
set_option maxRecDepth 100000 in
theorem e_dk203 : e_okD e_M203 := by unfold e_okD; decide +kernel
set_option maxRecDepth 100000 in
theorem e_dk204 : e_okD e_M204 := by unfold e_okD; decide +kernel
set_option maxRecDepth 100000 in
theorem e_dk205 : e_okD e_M205 := by unfold e_okD; decide +kernel
set_option maxRecDepth 100000 in
theorem e_dk206 : e_okD e_M206 := by unfold e_okD; decide +kernel
set_option maxRecDepth 100000 in
theorem e_dk207 : e_okD e_M207 := by unfold e_okD; decide +kernel
set_option maxRecDepth 100000 in
theorem e_dk208 : e_okD e_M208 := by unfold e_okD; decide +kernel
set_option maxRecDepth 100000 in
theorem e_dk209 : e_okD e_M209 := by unfold e_okD; decide +kernel
set_option maxRecDepth 100000 in
theorem e_dk210 : e_okD e_M210 := by unfold e_okD; decide +kernel
set_option maxRecDepth 100000 in
theorem e_dk211 : e_okD e_M211 := by unfold e_okD; decide +kernel
set_option maxRecDepth 100000 in
theorem e_dk212 : e_okD e_M212 := by unfold e_okD; decide +kernel
set_option maxRecDepth 100000 in
theorem e_dk213 : e_okD e_M213 := by unfold e_okD; decide +kernel
set_option maxRecDepth 100000 in
theorem e_dk214 : e_okD e_M214 := by unfold e_okD; decide +kernel
set_option maxRecDepth 100000 in
theorem e_dk215 : e_okD e_M215 := by unfold e_okD; decide +kernel
set_option maxRecDepth 100000 in
theorem e_dk216 : e_okD e_M216 := by unfold e_okD; decide +kernel
set_option maxRecDepth 100000 in
theorem e_dk217 : e_okD e_M217 := by unfold e_okD; decide +kernel
set_option maxRecDepth 100000 in
theorem e_dk218 : e_okD e_M218 := by unfold e_okD; decide +kernel
set_option maxRecDepth 100000 in
theorem e_dk219 : e_okD e_M219 := by unfold e_okD; decide +kernel
set_option maxRecDepth 100000 in
theorem e_dk220 : e_okD e_M220 := by unfold e_okD; decide +kernel
set_option maxRecDepth 100000 in
theorem e_dk221 : e_okD e_M221 := by unfold e_okD; decide +kernel
set_option maxRecDepth 100000 in
theorem e_dk222 : e_okD e_M222 := by unfold e_okD; decide +kernel
set_option maxRecDepth 100000 in
theorem e_dk223 : e_okD e_M223 := by unfold e_okD; decide +kernel
set_option maxRecDepth 100000 in
theorem e_dk224 : e_okD e_M224 := by unfold e_okD; decide +kernel
set_option maxRecDepth 100000 in
theorem e_dk225 : e_okD e_M225 := by unfold e_okD; decide +kernel
set_option maxRecDepth 100000 in
theorem e_dk226 : e_okD e_M226 := by unfold e_okD; decide +kernel
set_option maxRecDepth 100000 in
theorem e_dk227 : e_okD e_M227 := by unfold e_okD; decide +kernel
set_option maxRecDepth 100000 in
theorem e_dk228 : e_okD e_M228 := by unfold e_okD; decide +kernel
set_option maxRecDepth 100000 in
theorem e_dk229 : e_okD e_M229 := by unfold e_okD; decide +kernel
set_option maxRecDepth 100000 in
theorem e_dk230 : e_okD e_M230 := by unfold e_okD; decide +kernel
set_option maxRecDepth 100000 in
theorem e_dk231 : e_okD e_M231 := by unfold e_okD; decide +kernel
set_option maxRecDepth 100000 in
theorem e_dk232 : e_okD e_M232 := by unfold e_okD; decide +kernel
set_option maxRecDepth 100000 in
theorem e_dk233 : e_okD e_M233 := by unfold e_okD; decide +kernel
set_option maxRecDepth 100000 in
theorem e_dk234 : e_okD e_M234 := by unfold e_okD; decide +kernel
set_option maxRecDepth 100000 in
theorem e_dk235 : e_okD e_M235 := by unfold e_okD; decide +kernel
set_option maxRecDepth 100000 in
theorem e_dk236 : e_okD e_M236 := by unfold e_okD; decide +kernel
set_option maxRecDepth 100000 in
theorem e_dk237 : e_okD e_M237 := by unfold e_okD; decide +kernel
set_option maxRecDepth 100000 in
theorem e_dk238 : e_okD e_M238 := by unfold e_okD; decide +kernel
set_option maxRecDepth 100000 in
theorem e_dk239 : e_okD e_M239 := by unfold e_okD; decide +kernel
set_option maxRecDepth 100000 in
theorem e_dk240 : e_okD e_M240 := by unfold e_okD; decide +kernel
set_option maxRecDepth 100000 in
theorem e_dk241 : e_okD e_M241 := by unfold e_okD; decide +kernel
set_option maxRecDepth 100000 in
theorem e_dk242 : e_okD e_M242 := by unfold e_okD; decide +kernel
set_option maxRecDepth 100000 in
theorem e_dk243 : e_okD e_M243 := by unfold e_okD; decide +kernel
set_option maxRecDepth 100000 in
theorem e_dk244 : e_okD e_M244 := by unfold e_okD; decide +kernel
set_option maxRecDepth 100000 in
theorem e_dk245 : e_okD e_M245 := by unfold e_okD; decide +kernel
set_option maxRecDepth 100000 in
theorem e_dk246 : e_okD e_M246 := by unfold e_okD; decide +kernel
set_option maxRecDepth 100000 in
theorem e_dk247 : e_okD e_M247 := by unfold e_okD; decide +kernel
set_option maxRecDepth 100000 in
theorem e_dk248 : e_okD e_M248 := by unfold e_okD; decide +kernel
set_option maxRecDepth 100000 in
theorem e_dk249 : e_okD e_M249 := by unfold e_okD; decide +kernel
set_option maxRecDepth 100000 in
theorem e_dk250 : e_okD e_M250 := by unfold e_okD; decide +kernel
set_option maxRecDepth 100000 in
theorem e_dk251 : e_okD e_M251 := by unfold e_okD; decide +kernel
set_option maxRecDepth 100000 in
theorem e_dk252 : e_okD e_M252 := by unfold e_okD; decide +kernel
set_option maxRecDepth 100000 in
theorem e_dk253 : e_okD e_M253 := by unfold e_okD; decide +kernel
set_option maxRecDepth 100000 in
theorem e_dk254 : e_okD e_M254 := by unfold e_okD; decide +kernel
set_option maxRecDepth 100000 in
theorem e_dk255 : e_okD e_M255 := by unfold e_okD; decide +kernel
set_option maxRecDepth 100000 in
theorem e_dk256 : e_okD e_M256 := by unfold e_okD; decide +kernel
set_option maxRecDepth 100000 in
theorem e_dk257 : e_okD e_M257 := by unfold e_okD; decide +kernel
set_option maxRecDepth 100000 in
theorem e_dk258 : e_okD e_M258 := by unfold e_okD; decide +kernel
set_option maxRecDepth 100000 in
theorem e_dk259 : e_okD e_M259 := by unfold e_okD; decide +kernel
set_option maxRecDepth 100000 in
theorem e_dk260 : e_okD e_M260 := by unfold e_okD; decide +kernel
set_option maxRecDepth 100000 in
theorem e_dk261 : e_okD e_M261 := by unfold e_okD; decide +kernel
set_option maxRecDepth 100000 in
theorem e_dk262 : e_okD e_M262 := by unfold e_okD; decide +kernel
set_option maxRecDepth 100000 in
theorem e_dk263 : e_okD e_M263 := by unfold e_okD; decide +kernel
set_option maxRecDepth 100000 in
theorem e_dk264 : e_okD e_M264 := by unfold e_okD; decide +kernel
set_option maxRecDepth 100000 in
theorem e_dk265 : e_okD e_M265 := by unfold e_okD; decide +kernel
set_option maxRecDepth 100000 in
theorem e_dk266 : e_okD e_M266 := by unfold e_okD; decide +kernel
set_option maxRecDepth 100000 in
theorem e_dk267 : e_okD e_M267 := by unfold e_okD; decide +kernel
set_option maxRecDepth 100000 in
theorem e_dk268 : e_okD e_M268 := by unfold e_okD; decide +kernel
set_option maxRecDepth 100000 in
theorem e_dk269 : e_okD e_M269 := by unfold e_okD; decide +kernel
set_option maxRecDepth 100000 in
theorem e_dk270 : e_okD e_M270 := by unfold e_okD; decide +kernel
set_option maxRecDepth 100000 in
theorem e_dk271 : e_okD e_M271 := by unfold e_okD; decide +kernel
set_option maxRecDepth 100000 in
theorem e_dk272 : e_okD e_M272 := by unfold e_okD; decide +kernel
set_option maxRecDepth 100000 in
theorem e_dk273 : e_okD e_M273 := by unfold e_okD; decide +kernel
set_option maxRecDepth 100000 in
theorem e_dk274 : e_okD e_M274 := by unfold e_okD; decide +kernel
set_option maxRecDepth 100000 in
theorem e_dk275 : e_okD e_M275 := by unfold e_okD; decide +kernel
set_option maxRecDepth 100000 in
theorem e_dk276 : e_okD e_M276 := by unfold e_okD; decide +kernel
set_option maxRecDepth 100000 in
theorem e_dk277 : e_okD e_M277 := by unfold e_okD; decide +kernel
set_option maxRecDepth 100000 in
theorem e_dk278 : e_okD e_M278 := by unfold e_okD; decide +kernel
set_option maxRecDepth 100000 in
theorem e_dk279 : e_okD e_M279 := by unfold e_okD; decide +kernel
set_option maxRecDepth 100000 in
theorem e_dk280 : e_okD e_M280 := by unfold e_okD; decide +kernel
set_option maxRecDepth 100000 in
theorem e_dk281 : e_okD e_M281 := by unfold e_okD; decide +kernel
set_option maxRecDepth 100000 in
theorem e_dk282 : e_okD e_M282 := by unfold e_okD; decide +kernel
set_option maxRecDepth 100000 in
theorem e_dk283 : e_okD e_M283 := by unfold e_okD; decide +kernel
set_option maxRecDepth 100000 in
theorem e_dk284 : e_okD e_M284 := by unfold e_okD; decide +kernel
set_option maxRecDepth 100000 in
theorem e_dk285 : e_okD e_M285 := by unfold e_okD; decide +kernel
set_option maxRecDepth 100000 in
theorem e_dk286 : e_okD e_M286 := by unfold e_okD; decide +kernel
set_option maxRecDepth 100000 in
theorem e_dk287 : e_okD e_M287 := by unfold e_okD; decide +kernel
set_option maxRecDepth 100000 in
theorem e_dk288 : e_okD e_M288 := by unfold e_okD; decide +kernel
set_option maxRecDepth 100000 in
theorem e_dk289 : e_okD e_M289 := by unfold e_okD; decide +kernel
set_option maxRecDepth 100000 in
theorem e_dk290 : e_okD e_M290 := by unfold e_okD; decide +kernel
set_option maxRecDepth 100000 in
theorem e_dk291 : e_okD e_M291 := by unfold e_okD; decide +kernel
set_option maxRecDepth 100000 in
theorem e_dk292 : e_okD e_M292 := by unfold e_okD; decide +kernel
set_option maxRecDepth 100000 in
theorem e_dk293 : e_okD e_M293 := by unfold e_okD; decide +kernel
set_option maxRecDepth 100000 in
theorem e_dk294 : e_okD e_M294 := by unfold e_okD; decide +kernel
set_option maxRecDepth 100000 in
theorem e_dk295 : e_okD e_M295 := by unfold e_okD; decide +kernel
set_option maxRecDepth 100000 in
theorem e_dk296 : e_okD e_M296 := by unfold e_okD; decide +kernel
set_option maxRecDepth 100000 in
theorem e_dk297 : e_okD e_M297 := by unfold e_okD; decide +kernel
set_option maxRecDepth 100000 in
theorem e_dk298 : e_okD e_M298 := by unfold e_okD; decide +kernel
set_option maxRecDepth 100000 in
theorem e_dk299 : e_okD e_M299 := by unfold e_okD; decide +kernel
set_option maxRecDepth 100000 in
theorem e_dk300 : e_okD e_M300 := by unfold e_okD; decide +kernel
set_option maxRecDepth 100000 in
theorem e_dk301 : e_okD e_M301 := by unfold e_okD; decide +kernel
set_option maxRecDepth 100000 in
theorem e_dk302 : e_okD e_M302 := by unfold e_okD; decide +kernel
set_option maxRecDepth 100000 in
theorem e_dk303 : e_okD e_M303 := by unfold e_okD; decide +kernel
set_option maxRecDepth 100000 in
theorem e_dk304 : e_okD e_M304 := by unfold e_okD; decide +kernel
set_option maxRecDepth 100000 in
theorem e_dk305 : e_okD e_M305 := by unfold e_okD; decide +kernel
set_option maxRecDepth 100000 in
theorem e_dk306 : e_okD e_M306 := by unfold e_okD; decide +kernel
set_option maxRecDepth 100000 in
theorem e_dk307 : e_okD e_M307 := by unfold e_okD; decide +kernel
set_option maxRecDepth 100000 in
theorem e_dk308 : e_okD e_M308 := by unfold e_okD; decide +kernel
set_option maxRecDepth 100000 in
theorem e_dk309 : e_okD e_M309 := by unfold e_okD; decide +kernel
set_option maxRecDepth 100000 in
theorem e_dk310 : e_okD e_M310 := by unfold e_okD; decide +kernel
set_option maxRecDepth 100000 in
theorem e_dk311 : e_okD e_M311 := by unfold e_okD; decide +kernel
set_option maxRecDepth 100000 in
theorem e_dk312 : e_okD e_M312 := by unfold e_okD; decide +kernel
set_option maxRecDepth 100000 in
theorem e_dk313 : e_okD e_M313 := by unfold e_okD; decide +kernel
set_option maxRecDepth 100000 in
theorem e_dk314 : e_okD e_M314 := by unfold e_okD; decide +kernel
set_option maxRecDepth 100000 in
theorem e_dk315 : e_okD e_M315 := by unfold e_okD; decide +kernel
set_option maxRecDepth 100000 in
theorem e_dk316 : e_okD e_M316 := by unfold e_okD; decide +kernel
set_option maxRecDepth 100000 in
theorem e_dk317 : e_okD e_M317 := by unfold e_okD; decide +kernel
set_option maxRecDepth 100000 in
theorem e_dk318 : e_okD e_M318 := by unfold e_okD; decide +kernel
set_option maxRecDepth 100000 in
theorem e_dk319 : e_okD e_M319 := by unfold e_okD; decide +kernel
set_option maxRecDepth 100000 in
theorem e_dk320 : e_okD e_M320 := by unfold e_okD; decide +kernel
set_option maxRecDepth 100000 in
theorem e_dk321 : e_okD e_M321 := by unfold e_okD; decide +kernel
set_option maxRecDepth 100000 in
theorem e_dk322 : e_okD e_M322 := by unfold e_okD; decide +kernel
theorem e_dg0 : ∀ q ∈ e_Mh0, e_okD q.1 := List.forall_mem_cons.mpr ⟨e_dk0, List.forall_mem_cons.mpr ⟨e_dk1, List.forall_mem_cons.mpr ⟨e_dk2, List.forall_mem_cons.mpr ⟨e_dk3, List.forall_mem_cons.mpr ⟨e_dk4, List.forall_mem_cons.mpr ⟨e_dk5, List.forall_mem_cons.mpr ⟨e_dk6, List.forall_mem_cons.mpr ⟨e_dk7, List.forall_mem_cons.mpr ⟨e_dk8, List.forall_mem_cons.mpr ⟨e_dk9, List.forall_mem_cons.mpr ⟨e_dk10, List.forall_mem_cons.mpr ⟨e_dk11, List.forall_mem_cons.mpr ⟨e_dk12, List.forall_mem_cons.mpr ⟨e_dk13, List.forall_mem_cons.mpr ⟨e_dk14, List.forall_mem_cons.mpr ⟨e_dk15, List.forall_mem_cons.mpr ⟨e_dk16, List.forall_mem_cons.mpr ⟨e_dk17, List.forall_mem_cons.mpr ⟨e_dk18, List.forall_mem_cons.mpr ⟨e_dk19, List.forall_mem_cons.mpr ⟨e_dk20, List.forall_mem_cons.mpr ⟨e_dk21, List.forall_mem_cons.mpr ⟨e_dk22, List.forall_mem_cons.mpr ⟨e_dk23, List.forall_mem_cons.mpr ⟨e_dk24, List.forall_mem_cons.mpr ⟨e_dk25, List.forall_mem_cons.mpr ⟨e_dk26, List.forall_mem_cons.mpr ⟨e_dk27, List.forall_mem_cons.mpr ⟨e_dk28, List.forall_mem_cons.mpr ⟨e_dk29, List.forall_mem_cons.mpr ⟨e_dk30, List.forall_mem_cons.mpr ⟨e_dk31, List.forall_mem_cons.mpr ⟨e_dk32, List.forall_mem_cons.mpr ⟨e_dk33, List.forall_mem_cons.mpr ⟨e_dk34, List.forall_mem_cons.mpr ⟨e_dk35, List.forall_mem_cons.mpr ⟨e_dk36, List.forall_mem_cons.mpr ⟨e_dk37, List.forall_mem_cons.mpr ⟨e_dk38, List.forall_mem_cons.mpr ⟨e_dk39, fun _ h => absurd h List.not_mem_nil⟩⟩⟩⟩⟩⟩⟩⟩⟩⟩⟩⟩⟩⟩⟩⟩⟩⟩⟩⟩⟩⟩⟩⟩⟩⟩⟩⟩⟩⟩⟩⟩⟩⟩⟩⟩⟩⟩⟩⟩
theorem e_dg1 : ∀ q ∈ e_Mh1, e_okD q.1 := List.forall_mem_cons.mpr ⟨e_dk40, List.forall_mem_cons.mpr ⟨e_dk41, List.forall_mem_cons.mpr ⟨e_dk42, List.forall_mem_cons.mpr ⟨e_dk43, List.forall_mem_cons.mpr ⟨e_dk44, List.forall_mem_cons.mpr ⟨e_dk45, List.forall_mem_cons.mpr ⟨e_dk46, List.forall_mem_cons.mpr ⟨e_dk47, List.forall_mem_cons.mpr ⟨e_dk48, List.forall_mem_cons.mpr ⟨e_dk49, List.forall_mem_cons.mpr ⟨e_dk50, List.forall_mem_cons.mpr ⟨e_dk51, List.forall_mem_cons.mpr ⟨e_dk52, List.forall_mem_cons.mpr ⟨e_dk53, List.forall_mem_cons.mpr ⟨e_dk54, List.forall_mem_cons.mpr ⟨e_dk55, List.forall_mem_cons.mpr ⟨e_dk56, List.forall_mem_cons.mpr ⟨e_dk57, List.forall_mem_cons.mpr ⟨e_dk58, List.forall_mem_cons.mpr ⟨e_dk59, List.forall_mem_cons.mpr ⟨e_dk60, List.forall_mem_cons.mpr ⟨e_dk61, List.forall_mem_cons.mpr ⟨e_dk62, List.forall_mem_cons.mpr ⟨e_dk63, List.forall_mem_cons.mpr ⟨e_dk64, List.forall_mem_cons.mpr ⟨e_dk65, List.forall_mem_cons.mpr ⟨e_dk66, List.forall_mem_cons.mpr ⟨e_dk67, List.forall_mem_cons.mpr ⟨e_dk68, List.forall_mem_cons.mpr ⟨e_dk69, List.forall_mem_cons.mpr ⟨e_dk70, List.forall_mem_cons.mpr ⟨e_dk71, List.forall_mem_cons.mpr ⟨e_dk72, List.forall_mem_cons.mpr ⟨e_dk73, List.forall_mem_cons.mpr ⟨e_dk74, List.forall_mem_cons.mpr ⟨e_dk75, List.forall_mem_cons.mpr ⟨e_dk76, List.forall_mem_cons.mpr ⟨e_dk77, List.forall_mem_cons.mpr ⟨e_dk78, List.forall_mem_cons.mpr ⟨e_dk79, fun _ h => absurd h List.not_mem_nil⟩⟩⟩⟩⟩⟩⟩⟩⟩⟩⟩⟩⟩⟩⟩⟩⟩⟩⟩⟩⟩⟩⟩⟩⟩⟩⟩⟩⟩⟩⟩⟩⟩⟩⟩⟩⟩⟩⟩⟩
theorem e_dg2 : ∀ q ∈ e_Mh2, e_okD q.1 := List.forall_mem_cons.mpr ⟨e_dk80, List.forall_mem_cons.mpr ⟨e_dk81, List.forall_mem_cons.mpr ⟨e_dk82, List.forall_mem_cons.mpr ⟨e_dk83, List.forall_mem_cons.mpr ⟨e_dk84, List.forall_mem_cons.mpr ⟨e_dk85, List.forall_mem_cons.mpr ⟨e_dk86, List.forall_mem_cons.mpr ⟨e_dk87, List.forall_mem_cons.mpr ⟨e_dk88, List.forall_mem_cons.mpr ⟨e_dk89, List.forall_mem_cons.mpr ⟨e_dk90, List.forall_mem_cons.mpr ⟨e_dk91, List.forall_mem_cons.mpr ⟨e_dk92, List.forall_mem_cons.mpr ⟨e_dk93, List.forall_mem_cons.mpr ⟨e_dk94, List.forall_mem_cons.mpr ⟨e_dk95, List.forall_mem_cons.mpr ⟨e_dk96, List.forall_mem_cons.mpr ⟨e_dk97, List.forall_mem_cons.mpr ⟨e_dk98, List.forall_mem_cons.mpr ⟨e_dk99, List.forall_mem_cons.mpr ⟨e_dk100, List.forall_mem_cons.mpr ⟨e_dk101, List.forall_mem_cons.mpr ⟨e_dk102, List.forall_mem_cons.mpr ⟨e_dk103, List.forall_mem_cons.mpr ⟨e_dk104, List.forall_mem_cons.mpr ⟨e_dk105, List.forall_mem_cons.mpr ⟨e_dk106, List.forall_mem_cons.mpr ⟨e_dk107, List.forall_mem_cons.mpr ⟨e_dk108, List.forall_mem_cons.mpr ⟨e_dk109, List.forall_mem_cons.mpr ⟨e_dk110, List.forall_mem_cons.mpr ⟨e_dk111, List.forall_mem_cons.mpr ⟨e_dk112, List.forall_mem_cons.mpr ⟨e_dk113, List.forall_mem_cons.mpr ⟨e_dk114, List.forall_mem_cons.mpr ⟨e_dk115, List.forall_mem_cons.mpr ⟨e_dk116, List.forall_mem_cons.mpr ⟨e_dk117, List.forall_mem_cons.mpr ⟨e_dk118, List.forall_mem_cons.mpr ⟨e_dk119, fun _ h => absurd h List.not_mem_nil⟩⟩⟩⟩⟩⟩⟩⟩⟩⟩⟩⟩⟩⟩⟩⟩⟩⟩⟩⟩⟩⟩⟩⟩⟩⟩⟩⟩⟩⟩⟩⟩⟩⟩⟩⟩⟩⟩⟩⟩
theorem e_dg3 : ∀ q ∈ e_Mh3, e_okD q.1 := List.forall_mem_cons.mpr ⟨e_dk120, List.forall_mem_cons.mpr ⟨e_dk121, List.forall_mem_cons.mpr ⟨e_dk122, List.forall_mem_cons.mpr ⟨e_dk123, List.forall_mem_cons.mpr ⟨e_dk124, List.forall_mem_cons.mpr ⟨e_dk125, List.forall_mem_cons.mpr ⟨e_dk126, List.forall_mem_cons.mpr ⟨e_dk127, List.forall_mem_cons.mpr ⟨e_dk128, List.forall_mem_cons.mpr ⟨e_dk129, List.forall_mem_cons.mpr ⟨e_dk130, List.forall_mem_cons.mpr ⟨e_dk131, List.forall_mem_cons.mpr ⟨e_dk132, List.forall_mem_cons.mpr ⟨e_dk133, List.forall_mem_cons.mpr ⟨e_dk134, List.forall_mem_cons.mpr ⟨e_dk135, List.forall_mem_cons.mpr ⟨e_dk136, List.forall_mem_cons.mpr ⟨e_dk137, List.forall_mem_cons.mpr ⟨e_dk138, List.forall_mem_cons.mpr ⟨e_dk139, List.forall_mem_cons.mpr ⟨e_dk140, List.forall_mem_cons.mpr ⟨e_dk141, List.forall_mem_cons.mpr ⟨e_dk142, List.forall_mem_cons.mpr ⟨e_dk143, List.forall_mem_cons.mpr ⟨e_dk144, List.forall_mem_cons.mpr ⟨e_dk145, List.forall_mem_cons.mpr ⟨e_dk146, List.forall_mem_cons.mpr ⟨e_dk147, List.forall_mem_cons.mpr ⟨e_dk148, List.forall_mem_cons.mpr ⟨e_dk149, List.forall_mem_cons.mpr ⟨e_dk150, List.forall_mem_cons.mpr ⟨e_dk151, List.forall_mem_cons.mpr ⟨e_dk152, List.forall_mem_cons.mpr ⟨e_dk153, List.forall_mem_cons.mpr ⟨e_dk154, List.forall_mem_cons.mpr ⟨e_dk155, List.forall_mem_cons.mpr ⟨e_dk156, List.forall_mem_cons.mpr ⟨e_dk157, List.forall_mem_cons.mpr ⟨e_dk158, List.forall_mem_cons.mpr ⟨e_dk159, fun _ h => absurd h List.not_mem_nil⟩⟩⟩⟩⟩⟩⟩⟩⟩⟩⟩⟩⟩⟩⟩⟩⟩⟩⟩⟩⟩⟩⟩⟩⟩⟩⟩⟩⟩⟩⟩⟩⟩⟩⟩⟩⟩⟩⟩⟩
theorem e_dg4 : ∀ q ∈ e_Mh4, e_okD q.1 := List.forall_mem_cons.mpr ⟨e_dk160, List.forall_mem_cons.mpr ⟨e_dk161, List.forall_mem_cons.mpr ⟨e_dk162, List.forall_mem_cons.mpr ⟨e_dk163, List.forall_mem_cons.mpr ⟨e_dk164, List.forall_mem_cons.mpr ⟨e_dk165, List.forall_mem_cons.mpr ⟨e_dk166, List.forall_mem_cons.mpr ⟨e_dk167, List.forall_mem_cons.mpr ⟨e_dk168, List.forall_mem_cons.mpr ⟨e_dk169, List.forall_mem_cons.mpr ⟨e_dk170, List.forall_mem_cons.mpr ⟨e_dk171, List.forall_mem_cons.mpr ⟨e_dk172, List.forall_mem_cons.mpr ⟨e_dk173, List.forall_mem_cons.mpr ⟨e_dk174, List.forall_mem_cons.mpr ⟨e_dk175, List.forall_mem_cons.mpr ⟨e_dk176, List.forall_mem_cons.mpr ⟨e_dk177, List.forall_mem_cons.mpr ⟨e_dk178, List.forall_mem_cons.mpr ⟨e_dk179, List.forall_mem_cons.mpr ⟨e_dk180, List.forall_mem_cons.mpr ⟨e_dk181, List.forall_mem_cons.mpr ⟨e_dk182, List.forall_mem_cons.mpr ⟨e_dk183, List.forall_mem_cons.mpr ⟨e_dk184, List.forall_mem_cons.mpr ⟨e_dk185, List.forall_mem_cons.mpr ⟨e_dk186, List.forall_mem_cons.mpr ⟨e_dk187, List.forall_mem_cons.mpr ⟨e_dk188, List.forall_mem_cons.mpr ⟨e_dk189, List.forall_mem_cons.mpr ⟨e_dk190, List.forall_mem_cons.mpr ⟨e_dk191, List.forall_mem_cons.mpr ⟨e_dk192, List.forall_mem_cons.mpr ⟨e_dk193, List.forall_mem_cons.mpr ⟨e_dk194, List.forall_mem_cons.mpr ⟨e_dk195, List.forall_mem_cons.mpr ⟨e_dk196, List.forall_mem_cons.mpr ⟨e_dk197, List.forall_mem_cons.mpr ⟨e_dk198, List.forall_mem_cons.mpr ⟨e_dk199, fun _ h => absurd h List.not_mem_nil⟩⟩⟩⟩⟩⟩⟩⟩⟩⟩⟩⟩⟩⟩⟩⟩⟩⟩⟩⟩⟩⟩⟩⟩⟩⟩⟩⟩⟩⟩⟩⟩⟩⟩⟩⟩⟩⟩⟩⟩
theorem e_dg5 : ∀ q ∈ e_Mh5, e_okD q.1 := List.forall_mem_cons.mpr ⟨e_dk200, List.forall_mem_cons.mpr ⟨e_dk201, List.forall_mem_cons.mpr ⟨e_dk202, List.forall_mem_cons.mpr ⟨e_dk203, List.forall_mem_cons.mpr ⟨e_dk204, List.forall_mem_cons.mpr ⟨e_dk205, List.forall_mem_cons.mpr ⟨e_dk206, List.forall_mem_cons.mpr ⟨e_dk207, List.forall_mem_cons.mpr ⟨e_dk208, List.forall_mem_cons.mpr ⟨e_dk209, List.forall_mem_cons.mpr ⟨e_dk210, List.forall_mem_cons.mpr ⟨e_dk211, List.forall_mem_cons.mpr ⟨e_dk212, List.forall_mem_cons.mpr ⟨e_dk213, List.forall_mem_cons.mpr ⟨e_dk214, List.forall_mem_cons.mpr ⟨e_dk215, List.forall_mem_cons.mpr ⟨e_dk216, List.forall_mem_cons.mpr ⟨e_dk217, List.forall_mem_cons.mpr ⟨e_dk218, List.forall_mem_cons.mpr ⟨e_dk219, List.forall_mem_cons.mpr ⟨e_dk220, List.forall_mem_cons.mpr ⟨e_dk221, List.forall_mem_cons.mpr ⟨e_dk222, List.forall_mem_cons.mpr ⟨e_dk223, List.forall_mem_cons.mpr ⟨e_dk224, List.forall_mem_cons.mpr ⟨e_dk225, List.forall_mem_cons.mpr ⟨e_dk226, List.forall_mem_cons.mpr ⟨e_dk227, List.forall_mem_cons.mpr ⟨e_dk228, List.forall_mem_cons.mpr ⟨e_dk229, List.forall_mem_cons.mpr ⟨e_dk230, List.forall_mem_cons.mpr ⟨e_dk231, List.forall_mem_cons.mpr ⟨e_dk232, List.forall_mem_cons.mpr ⟨e_dk233, List.forall_mem_cons.mpr ⟨e_dk234, List.forall_mem_cons.mpr ⟨e_dk235, List.forall_mem_cons.mpr ⟨e_dk236, List.forall_mem_cons.mpr ⟨e_dk237, List.forall_mem_cons.mpr ⟨e_dk238, List.forall_mem_cons.mpr ⟨e_dk239, fun _ h => absurd h List.not_mem_nil⟩⟩⟩⟩⟩⟩⟩⟩⟩⟩⟩⟩⟩⟩⟩⟩⟩⟩⟩⟩⟩⟩⟩⟩⟩⟩⟩⟩⟩⟩⟩⟩⟩⟩⟩⟩⟩⟩⟩⟩
theorem e_dg6 : ∀ q ∈ e_Mh6, e_okD q.1 := List.forall_mem_cons.mpr ⟨e_dk240, List.forall_mem_cons.mpr ⟨e_dk241, List.forall_mem_cons.mpr ⟨e_dk242, List.forall_mem_cons.mpr ⟨e_dk243, List.forall_mem_cons.mpr ⟨e_dk244, List.forall_mem_cons.mpr ⟨e_dk245, List.forall_mem_cons.mpr ⟨e_dk246, List.forall_mem_cons.mpr ⟨e_dk247, List.forall_mem_cons.mpr ⟨e_dk248, List.forall_mem_cons.mpr ⟨e_dk249, List.forall_mem_cons.mpr ⟨e_dk250, List.forall_mem_cons.mpr ⟨e_dk251, List.forall_mem_cons.mpr ⟨e_dk252, List.forall_mem_cons.mpr ⟨e_dk253, List.forall_mem_cons.mpr ⟨e_dk254, List.forall_mem_cons.mpr ⟨e_dk255, List.forall_mem_cons.mpr ⟨e_dk256, List.forall_mem_cons.mpr ⟨e_dk257, List.forall_mem_cons.mpr ⟨e_dk258, List.forall_mem_cons.mpr ⟨e_dk259, List.forall_mem_cons.mpr ⟨e_dk260, List.forall_mem_cons.mpr ⟨e_dk261, List.forall_mem_cons.mpr ⟨e_dk262, List.forall_mem_cons.mpr ⟨e_dk263, List.forall_mem_cons.mpr ⟨e_dk264, List.forall_mem_cons.mpr ⟨e_dk265, List.forall_mem_cons.mpr ⟨e_dk266, List.forall_mem_cons.mpr ⟨e_dk267, List.forall_mem_cons.mpr ⟨e_dk268, List.forall_mem_cons.mpr ⟨e_dk269, List.forall_mem_cons.mpr ⟨e_dk270, List.forall_mem_cons.mpr ⟨e_dk271, List.forall_mem_cons.mpr ⟨e_dk272, List.forall_mem_cons.mpr ⟨e_dk273, List.forall_mem_cons.mpr ⟨e_dk274, List.forall_mem_cons.mpr ⟨e_dk275, List.forall_mem_cons.mpr ⟨e_dk276, List.forall_mem_cons.mpr ⟨e_dk277, List.forall_mem_cons.mpr ⟨e_dk278, List.forall_mem_cons.mpr ⟨e_dk279, fun _ h => absurd h List.not_mem_nil⟩⟩⟩⟩⟩⟩⟩⟩⟩⟩⟩⟩⟩⟩⟩⟩⟩⟩⟩⟩⟩⟩⟩⟩⟩⟩⟩⟩⟩⟩⟩⟩⟩⟩⟩⟩⟩⟩⟩⟩
theorem e_dg7 : ∀ q ∈ e_Mh7, e_okD q.1 := List.forall_mem_cons.mpr ⟨e_dk280, List.forall_mem_cons.mpr ⟨e_dk281, List.forall_mem_cons.mpr ⟨e_dk282, List.forall_mem_cons.mpr ⟨e_dk283, List.forall_mem_cons.mpr ⟨e_dk284, List.forall_mem_cons.mpr ⟨e_dk285, List.forall_mem_cons.mpr ⟨e_dk286, List.forall_mem_cons.mpr ⟨e_dk287, List.forall_mem_cons.mpr ⟨e_dk288, List.forall_mem_cons.mpr ⟨e_dk289, List.forall_mem_cons.mpr ⟨e_dk290, List.forall_mem_cons.mpr ⟨e_dk291, List.forall_mem_cons.mpr ⟨e_dk292, List.forall_mem_cons.mpr ⟨e_dk293, List.forall_mem_cons.mpr ⟨e_dk294, List.forall_mem_cons.mpr ⟨e_dk295, List.forall_mem_cons.mpr ⟨e_dk296, List.forall_mem_cons.mpr ⟨e_dk297, List.forall_mem_cons.mpr ⟨e_dk298, List.forall_mem_cons.mpr ⟨e_dk299, List.forall_mem_cons.mpr ⟨e_dk300, List.forall_mem_cons.mpr ⟨e_dk301, List.forall_mem_cons.mpr ⟨e_dk302, List.forall_mem_cons.mpr ⟨e_dk303, List.forall_mem_cons.mpr ⟨e_dk304, List.forall_mem_cons.mpr ⟨e_dk305, List.forall_mem_cons.mpr ⟨e_dk306, List.forall_mem_cons.mpr ⟨e_dk307, List.forall_mem_cons.mpr ⟨e_dk308, List.forall_mem_cons.mpr ⟨e_dk309, List.forall_mem_cons.mpr ⟨e_dk310, List.forall_mem_cons.mpr ⟨e_dk311, List.forall_mem_cons.mpr ⟨e_dk312, List.forall_mem_cons.mpr ⟨e_dk313, List.forall_mem_cons.mpr ⟨e_dk314, List.forall_mem_cons.mpr ⟨e_dk315, List.forall_mem_cons.mpr ⟨e_dk316, List.forall_mem_cons.mpr ⟨e_dk317, List.forall_mem_cons.mpr ⟨e_dk318, List.forall_mem_cons.mpr ⟨e_dk319, fun _ h => absurd h List.not_mem_nil⟩⟩⟩⟩⟩⟩⟩⟩⟩⟩⟩⟩⟩⟩⟩⟩⟩⟩⟩⟩⟩⟩⟩⟩⟩⟩⟩⟩⟩⟩⟩⟩⟩⟩⟩⟩⟩⟩⟩⟩
theorem e_dg8 : ∀ q ∈ e_Mh8, e_okD q.1 := List.forall_mem_cons.mpr ⟨e_dk320, List.forall_mem_cons.mpr ⟨e_dk321, List.forall_mem_cons.mpr ⟨e_dk322, fun _ h => absurd h List.not_mem_nil⟩⟩⟩
theorem e_dAll : ∀ q ∈ e_Mh, e_okD q.1 := List.forall_mem_append.mpr ⟨e_dg0, List.forall_mem_append.mpr ⟨e_dg1, List.forall_mem_append.mpr ⟨e_dg2, List.forall_mem_append.mpr ⟨e_dg3, List.forall_mem_append.mpr ⟨e_dg4, List.forall_mem_append.mpr ⟨e_dg5, List.forall_mem_append.mpr ⟨e_dg6, List.forall_mem_append.mpr ⟨e_dg7, e_dg8⟩⟩⟩⟩⟩⟩⟩⟩
