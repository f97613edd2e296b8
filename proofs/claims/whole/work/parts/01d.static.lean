/-! static facts: what fields, links and methods are -/
set_option maxRecDepth 100000 in
theorem f_Desk_10 : xv_Fd "FaslDesk" 10 10 0 (.object "FaslDesk$Form") := ⟨by decide, by decide, by decide +kernel, xv_in 299 rfl rfl⟩
set_option maxRecDepth 100000 in
theorem f_Desk_19 : xv_Fd "FaslDesk" 19 10 1 (.object "FaslDesk$Interpreter") := ⟨by decide, by decide, by decide +kernel, xv_in 300 rfl rfl⟩
set_option maxRecDepth 100000 in
theorem f_Desk_26 : xv_Fd "FaslDesk" 26 10 2 (.object "FaslDesk$Compiler") := ⟨by decide, by decide, by decide +kernel, xv_in 301 rfl rfl⟩
set_option maxRecDepth 100000 in
theorem f_Desk_33 : xv_Fd "FaslDesk" 33 10 3 (.object "FaslDesk$Archive") := ⟨by decide, by decide, by decide +kernel, xv_in 302 rfl rfl⟩
set_option maxRecDepth 100000 in
theorem f_Desk_40 : xv_Fd "FaslDesk" 40 10 4 (.object "FaslDesk$Image") := ⟨by decide, by decide, by decide +kernel, xv_in 303 rfl rfl⟩
set_option maxRecDepth 100000 in
theorem f_Desk_44 : xv_Fd "FaslDesk" 44 10 7 .int := ⟨by decide, by decide, by decide +kernel, xv_in 306 rfl rfl⟩
set_option maxRecDepth 100000 in
theorem f_Desk_52 : xv_Fd "FaslDesk" 52 0 2 .int := ⟨by decide, by decide, by decide +kernel, xv_in 43 rfl rfl⟩
set_option maxRecDepth 100000 in
theorem f_Desk_66 : xv_Fd "FaslDesk" 66 3 0 (.array (.object "FaslDesk$Form")) := ⟨by decide, by decide, by decide +kernel, xv_in 109 rfl rfl⟩
set_option maxRecDepth 100000 in
theorem f_Desk_86 : xv_Fd "FaslDesk" 86 8 0 (.array (.object "FaslDesk$Entry")) := ⟨by decide, by decide, by decide +kernel, xv_in 257 rfl rfl⟩
set_option maxRecDepth 100000 in
theorem f_Desk_127 : xv_Fd "FaslDesk" 127 5 0 (.object "FaslDesk$Code") := ⟨by decide, by decide, by decide +kernel, xv_in 209 rfl rfl⟩
set_option maxRecDepth 100000 in
theorem f_Desk_131 : xv_Fd "FaslDesk" 131 4 0 (.array .int) := ⟨by decide, by decide, by decide +kernel, xv_in 180 rfl rfl⟩
set_option maxRecDepth 100000 in
theorem f_Desk_135 : xv_Fd "FaslDesk" 135 5 1 (.array .boolean) := ⟨by decide, by decide, by decide +kernel, xv_in 213 rfl rfl⟩
set_option maxRecDepth 100000 in
theorem f_Desk_147 : xv_Fd "FaslDesk" 147 10 6 .int := ⟨by decide, by decide, by decide +kernel, xv_in 305 rfl rfl⟩
set_option maxRecDepth 100000 in
theorem f_Desk_150 : xv_Fd "FaslDesk" 150 8 4 .int := ⟨by decide, by decide, by decide +kernel, xv_in 266 rfl rfl⟩
set_option maxRecDepth 100000 in
theorem f_Desk_157 : xv_Fd "FaslDesk" 157 10 5 .int := ⟨by decide, by decide, by decide +kernel, xv_in 304 rfl rfl⟩
set_option maxRecDepth 100000 in
theorem f_Desk_169 : xv_Fd "FaslDesk" 169 5 2 .int := ⟨by decide, by decide, by decide +kernel, xv_in 217 rfl rfl⟩
set_option maxRecDepth 100000 in
theorem f_Desk_172 : xv_Fd "FaslDesk" 172 5 3 .int := ⟨by decide, by decide, by decide +kernel, xv_in 219 rfl rfl⟩
set_option maxRecDepth 100000 in
theorem f_Desk_175 : xv_Fd "FaslDesk" 175 4 3 .int := ⟨by decide, by decide, by decide +kernel, xv_in 196 rfl rfl⟩
set_option maxRecDepth 100000 in
theorem f_Desk_176 : xv_Fd "FaslDesk" 176 5 4 .int := ⟨by decide, by decide, by decide +kernel, xv_in 223 rfl rfl⟩
set_option maxRecDepth 100000 in
theorem f_Desk_179 : xv_Fd "FaslDesk" 179 5 5 .int := ⟨by decide, by decide, by decide +kernel, xv_in 226 rfl rfl⟩
set_option maxRecDepth 100000 in
theorem f_Desk_186 : xv_Fd "FaslDesk" 186 4 1 (.array .int) := ⟨by decide, by decide, by decide +kernel, xv_in 185 rfl rfl⟩
set_option maxRecDepth 100000 in
theorem f_Desk_189 : xv_Fd "FaslDesk" 189 4 2 (.array .int) := ⟨by decide, by decide, by decide +kernel, xv_in 190 rfl rfl⟩
set_option maxRecDepth 100000 in
theorem f_Desk_195 : xv_Fd "FaslDesk" 195 8 1 .int := ⟨by decide, by decide, by decide +kernel, xv_in 260 rfl rfl⟩
set_option maxRecDepth 100000 in
theorem f_Desk_197 : xv_Fd "FaslDesk" 197 8 3 .int := ⟨by decide, by decide, by decide +kernel, xv_in 264 rfl rfl⟩
set_option maxRecDepth 100000 in
theorem f_Desk_201 : xv_Fd "FaslDesk" 201 8 2 .int := ⟨by decide, by decide, by decide +kernel, xv_in 262 rfl rfl⟩
set_option maxRecDepth 100000 in
theorem f_Desk_204 : xv_Fd "FaslDesk" 204 5 6 .boolean := ⟨by decide, by decide, by decide +kernel, xv_in 229 rfl rfl⟩
set_option maxRecDepth 100000 in
theorem f_Arch_11 : xv_Fd "FaslDesk$Archive" 11 8 0 (.array (.object "FaslDesk$Entry")) := ⟨by decide, by decide, by decide +kernel, xv_in 255 rfl rfl⟩
set_option maxRecDepth 100000 in
theorem f_Arch_20 : xv_Fd "FaslDesk$Archive" 20 8 5 (.object "FaslDesk$CodeCheck") := ⟨by decide, by decide, by decide +kernel, xv_in 267 rfl rfl⟩
set_option maxRecDepth 100000 in
theorem f_Arch_25 : xv_Fd "FaslDesk$Archive" 25 8 1 .int := ⟨by decide, by decide, by decide +kernel, xv_in 258 rfl rfl⟩
set_option maxRecDepth 100000 in
theorem f_Arch_29 : xv_Fd "FaslDesk$Archive" 29 5 2 .int := ⟨by decide, by decide, by decide +kernel, xv_in 215 rfl rfl⟩
set_option maxRecDepth 100000 in
theorem f_Arch_38 : xv_Fd "FaslDesk$Archive" 38 8 3 .int := ⟨by decide, by decide, by decide +kernel, xv_in 263 rfl rfl⟩
set_option maxRecDepth 100000 in
theorem f_Arch_41 : xv_Fd "FaslDesk$Archive" 41 8 4 .int := ⟨by decide, by decide, by decide +kernel, xv_in 265 rfl rfl⟩
set_option maxRecDepth 100000 in
theorem f_Arch_44 : xv_Fd "FaslDesk$Archive" 44 8 2 .int := ⟨by decide, by decide, by decide +kernel, xv_in 261 rfl rfl⟩
set_option maxRecDepth 100000 in
theorem f_Arch_65 : xv_Fd "FaslDesk$Archive" 65 5 6 .boolean := ⟨by decide, by decide, by decide +kernel, xv_in 228 rfl rfl⟩
set_option maxRecDepth 100000 in
theorem f_Arch_69 : xv_Fd "FaslDesk$Archive" 69 5 5 .int := ⟨by decide, by decide, by decide +kernel, xv_in 225 rfl rfl⟩
set_option maxRecDepth 100000 in
theorem f_Arch_72 : xv_Fd "FaslDesk$Archive" 72 5 0 (.object "FaslDesk$Code") := ⟨by decide, by decide, by decide +kernel, xv_in 210 rfl rfl⟩
set_option maxRecDepth 100000 in
theorem f_Arch_76 : xv_Fd "FaslDesk$Archive" 76 5 4 .int := ⟨by decide, by decide, by decide +kernel, xv_in 222 rfl rfl⟩
set_option maxRecDepth 100000 in
theorem f_Code_9 : xv_Fd "FaslDesk$Code" 9 4 0 (.array .int) := ⟨by decide, by decide, by decide +kernel, xv_in 176 rfl rfl⟩
set_option maxRecDepth 100000 in
theorem f_Code_15 : xv_Fd "FaslDesk$Code" 15 4 1 (.array .int) := ⟨by decide, by decide, by decide +kernel, xv_in 181 rfl rfl⟩
set_option maxRecDepth 100000 in
theorem f_Code_18 : xv_Fd "FaslDesk$Code" 18 4 2 (.array .int) := ⟨by decide, by decide, by decide +kernel, xv_in 186 rfl rfl⟩
set_option maxRecDepth 100000 in
theorem f_Code_25 : xv_Fd "FaslDesk$Code" 25 4 3 .int := ⟨by decide, by decide, by decide +kernel, xv_in 194 rfl rfl⟩
set_option maxRecDepth 100000 in
theorem f_Check_9 : xv_Fd "FaslDesk$CodeCheck" 9 7 0 (.array .int) := ⟨by decide, by decide, by decide +kernel, xv_in 152 rfl rfl⟩
set_option maxRecDepth 100000 in
theorem f_Check_15 : xv_Fd "FaslDesk$CodeCheck" 15 7 1 (.array .int) := ⟨by decide, by decide, by decide +kernel, xv_in 153 rfl rfl⟩
set_option maxRecDepth 100000 in
theorem f_Check_18 : xv_Fd "FaslDesk$CodeCheck" 18 7 3 (.object "FaslDesk$Code") := ⟨by decide, by decide, by decide +kernel, xv_in 155 rfl rfl⟩
set_option maxRecDepth 100000 in
theorem f_Check_22 : xv_Fd "FaslDesk$CodeCheck" 22 7 2 .int := ⟨by decide, by decide, by decide +kernel, xv_in 154 rfl rfl⟩
set_option maxRecDepth 100000 in
theorem f_Check_26 : xv_Fd "FaslDesk$CodeCheck" 26 4 3 .int := ⟨by decide, by decide, by decide +kernel, xv_in 193 rfl rfl⟩
set_option maxRecDepth 100000 in
theorem f_Check_38 : xv_Fd "FaslDesk$CodeCheck" 38 4 0 (.array .int) := ⟨by decide, by decide, by decide +kernel, xv_in 177 rfl rfl⟩
set_option maxRecDepth 100000 in
theorem f_Check_47 : xv_Fd "FaslDesk$CodeCheck" 47 4 1 (.array .int) := ⟨by decide, by decide, by decide +kernel, xv_in 182 rfl rfl⟩
set_option maxRecDepth 100000 in
theorem f_Check_50 : xv_Fd "FaslDesk$CodeCheck" 50 4 2 (.array .int) := ⟨by decide, by decide, by decide +kernel, xv_in 187 rfl rfl⟩
set_option maxRecDepth 100000 in
theorem f_Comp_9 : xv_Fd "FaslDesk$Compiler" 9 6 0 (.object "FaslDesk$Form") := ⟨by decide, by decide, by decide +kernel, xv_in 125 rfl rfl⟩
set_option maxRecDepth 100000 in
theorem f_Comp_15 : xv_Fd "FaslDesk$Compiler" 15 6 1 (.object "FaslDesk$Entry") := ⟨by decide, by decide, by decide +kernel, xv_in 126 rfl rfl⟩
set_option maxRecDepth 100000 in
theorem f_Comp_19 : xv_Fd "FaslDesk$Compiler" 19 5 0 (.object "FaslDesk$Code") := ⟨by decide, by decide, by decide +kernel, xv_in 207 rfl rfl⟩
set_option maxRecDepth 100000 in
theorem f_Comp_25 : xv_Fd "FaslDesk$Compiler" 25 6 2 (.object "FaslDesk$Code") := ⟨by decide, by decide, by decide +kernel, xv_in 127 rfl rfl⟩
set_option maxRecDepth 100000 in
theorem f_Comp_26 : xv_Fd "FaslDesk$Compiler" 26 6 3 .int := ⟨by decide, by decide, by decide +kernel, xv_in 128 rfl rfl⟩
set_option maxRecDepth 100000 in
theorem f_Comp_30 : xv_Fd "FaslDesk$Compiler" 30 0 3 .int := ⟨by decide, by decide, by decide +kernel, xv_in 47 rfl rfl⟩
set_option maxRecDepth 100000 in
theorem f_Comp_58 : xv_Fd "FaslDesk$Compiler" 58 5 4 .int := ⟨by decide, by decide, by decide +kernel, xv_in 221 rfl rfl⟩
set_option maxRecDepth 100000 in
theorem f_Comp_67 : xv_Fd "FaslDesk$Compiler" 67 4 3 .int := ⟨by decide, by decide, by decide +kernel, xv_in 195 rfl rfl⟩
set_option maxRecDepth 100000 in
theorem f_Comp_70 : xv_Fd "FaslDesk$Compiler" 70 5 1 (.array .boolean) := ⟨by decide, by decide, by decide +kernel, xv_in 212 rfl rfl⟩
set_option maxRecDepth 100000 in
theorem f_Comp_74 : xv_Fd "FaslDesk$Compiler" 74 0 2 .int := ⟨by decide, by decide, by decide +kernel, xv_in 46 rfl rfl⟩
set_option maxRecDepth 100000 in
theorem f_Comp_75 : xv_Fd "FaslDesk$Compiler" 75 0 0 (.array .int) := ⟨by decide, by decide, by decide +kernel, xv_in 38 rfl rfl⟩
set_option maxRecDepth 100000 in
theorem f_Comp_78 : xv_Fd "FaslDesk$Compiler" 78 0 1 (.array .int) := ⟨by decide, by decide, by decide +kernel, xv_in 41 rfl rfl⟩
set_option maxRecDepth 100000 in
theorem f_Comp_102 : xv_Fd "FaslDesk$Compiler" 102 4 1 (.array .int) := ⟨by decide, by decide, by decide +kernel, xv_in 184 rfl rfl⟩
set_option maxRecDepth 100000 in
theorem f_Comp_105 : xv_Fd "FaslDesk$Compiler" 105 4 2 (.array .int) := ⟨by decide, by decide, by decide +kernel, xv_in 189 rfl rfl⟩
set_option maxRecDepth 100000 in
theorem f_Entry_12 : xv_Fd "FaslDesk$Entry" 12 5 0 (.object "FaslDesk$Code") := ⟨by decide, by decide, by decide +kernel, xv_in 206 rfl rfl⟩
set_option maxRecDepth 100000 in
theorem f_Entry_18 : xv_Fd "FaslDesk$Entry" 18 5 1 (.array .boolean) := ⟨by decide, by decide, by decide +kernel, xv_in 211 rfl rfl⟩
set_option maxRecDepth 100000 in
theorem f_Entry_22 : xv_Fd "FaslDesk$Entry" 22 5 7 (.array .int) := ⟨by decide, by decide, by decide +kernel, xv_in 230 rfl rfl⟩
set_option maxRecDepth 100000 in
theorem f_Entry_26 : xv_Fd "FaslDesk$Entry" 26 4 3 .int := ⟨by decide, by decide, by decide +kernel, xv_in 191 rfl rfl⟩
set_option maxRecDepth 100000 in
theorem f_Entry_30 : xv_Fd "FaslDesk$Entry" 30 5 3 .int := ⟨by decide, by decide, by decide +kernel, xv_in 218 rfl rfl⟩
set_option maxRecDepth 100000 in
theorem f_Entry_33 : xv_Fd "FaslDesk$Entry" 33 5 4 .int := ⟨by decide, by decide, by decide +kernel, xv_in 220 rfl rfl⟩
set_option maxRecDepth 100000 in
theorem f_Entry_36 : xv_Fd "FaslDesk$Entry" 36 5 2 .int := ⟨by decide, by decide, by decide +kernel, xv_in 214 rfl rfl⟩
set_option maxRecDepth 100000 in
theorem f_Entry_39 : xv_Fd "FaslDesk$Entry" 39 5 5 .int := ⟨by decide, by decide, by decide +kernel, xv_in 224 rfl rfl⟩
set_option maxRecDepth 100000 in
theorem f_Entry_42 : xv_Fd "FaslDesk$Entry" 42 5 6 .boolean := ⟨by decide, by decide, by decide +kernel, xv_in 227 rfl rfl⟩
set_option maxRecDepth 100000 in
theorem f_Entry_49 : xv_Fd "FaslDesk$Entry" 49 5 8 .int := ⟨by decide, by decide, by decide +kernel, xv_in 231 rfl rfl⟩
set_option maxRecDepth 100000 in
theorem f_Entry_52 : xv_Fd "FaslDesk$Entry" 52 5 9 .boolean := ⟨by decide, by decide, by decide +kernel, xv_in 232 rfl rfl⟩
set_option maxRecDepth 100000 in
theorem f_Entry_55 : xv_Fd "FaslDesk$Entry" 55 4 0 (.array .int) := ⟨by decide, by decide, by decide +kernel, xv_in 178 rfl rfl⟩
set_option maxRecDepth 100000 in
theorem f_Form_9 : xv_Fd "FaslDesk$Form" 9 0 0 (.array .int) := ⟨by decide, by decide, by decide +kernel, xv_in 37 rfl rfl⟩
set_option maxRecDepth 100000 in
theorem f_Form_15 : xv_Fd "FaslDesk$Form" 15 0 1 (.array .int) := ⟨by decide, by decide, by decide +kernel, xv_in 40 rfl rfl⟩
set_option maxRecDepth 100000 in
theorem f_Form_18 : xv_Fd "FaslDesk$Form" 18 0 4 (.array .int) := ⟨by decide, by decide, by decide +kernel, xv_in 50 rfl rfl⟩
set_option maxRecDepth 100000 in
theorem f_Form_25 : xv_Fd "FaslDesk$Form" 25 0 2 .int := ⟨by decide, by decide, by decide +kernel, xv_in 45 rfl rfl⟩
set_option maxRecDepth 100000 in
theorem f_Form_35 : xv_Fd "FaslDesk$Form" 35 0 3 .int := ⟨by decide, by decide, by decide +kernel, xv_in 49 rfl rfl⟩
set_option maxRecDepth 100000 in
theorem f_Frame_9 : xv_Fd "FaslDesk$Frame" 9 1 0 (.array .int) := ⟨by decide, by decide, by decide +kernel, xv_in 81 rfl rfl⟩
set_option maxRecDepth 100000 in
theorem f_Frame_15 : xv_Fd "FaslDesk$Frame" 15 1 1 (.array .int) := ⟨by decide, by decide, by decide +kernel, xv_in 84 rfl rfl⟩
set_option maxRecDepth 100000 in
theorem f_Frame_24 : xv_Fd "FaslDesk$Frame" 24 1 2 .int := ⟨by decide, by decide, by decide +kernel, xv_in 85 rfl rfl⟩
set_option maxRecDepth 100000 in
theorem f_Image_11 : xv_Fd "FaslDesk$Image" 11 9 0 (.array (.object "FaslDesk$Code")) := ⟨by decide, by decide, by decide +kernel, xv_in 292 rfl rfl⟩
set_option maxRecDepth 100000 in
theorem f_Image_19 : xv_Fd "FaslDesk$Image" 19 9 1 (.array (.object "FaslDesk$Frame")) := ⟨by decide, by decide, by decide +kernel, xv_in 293 rfl rfl⟩
set_option maxRecDepth 100000 in
theorem f_Image_29 : xv_Fd "FaslDesk$Image" 29 4 3 .int := ⟨by decide, by decide, by decide +kernel, xv_in 192 rfl rfl⟩
set_option maxRecDepth 100000 in
theorem f_Image_37 : xv_Fd "FaslDesk$Image" 37 8 1 .int := ⟨by decide, by decide, by decide +kernel, xv_in 259 rfl rfl⟩
set_option maxRecDepth 100000 in
theorem f_Image_42 : xv_Fd "FaslDesk$Image" 42 8 0 (.array (.object "FaslDesk$Entry")) := ⟨by decide, by decide, by decide +kernel, xv_in 256 rfl rfl⟩
set_option maxRecDepth 100000 in
theorem f_Image_46 : xv_Fd "FaslDesk$Image" 46 5 2 .int := ⟨by decide, by decide, by decide +kernel, xv_in 216 rfl rfl⟩
set_option maxRecDepth 100000 in
theorem f_Image_51 : xv_Fd "FaslDesk$Image" 51 5 0 (.object "FaslDesk$Code") := ⟨by decide, by decide, by decide +kernel, xv_in 208 rfl rfl⟩
set_option maxRecDepth 100000 in
theorem f_Image_64 : xv_Fd "FaslDesk$Image" 64 4 0 (.array .int) := ⟨by decide, by decide, by decide +kernel, xv_in 179 rfl rfl⟩
set_option maxRecDepth 100000 in
theorem f_Image_76 : xv_Fd "FaslDesk$Image" 76 4 1 (.array .int) := ⟨by decide, by decide, by decide +kernel, xv_in 183 rfl rfl⟩
set_option maxRecDepth 100000 in
theorem f_Image_83 : xv_Fd "FaslDesk$Image" 83 1 0 (.array .int) := ⟨by decide, by decide, by decide +kernel, xv_in 83 rfl rfl⟩
set_option maxRecDepth 100000 in
theorem f_Image_92 : xv_Fd "FaslDesk$Image" 92 4 2 (.array .int) := ⟨by decide, by decide, by decide +kernel, xv_in 188 rfl rfl⟩
set_option maxRecDepth 100000 in
theorem f_Interp_11 : xv_Fd "FaslDesk$Interpreter" 11 3 0 (.array (.object "FaslDesk$Form")) := ⟨by decide, by decide, by decide +kernel, xv_in 108 rfl rfl⟩
set_option maxRecDepth 100000 in
theorem f_Interp_19 : xv_Fd "FaslDesk$Interpreter" 19 3 1 (.array (.object "FaslDesk$Frame")) := ⟨by decide, by decide, by decide +kernel, xv_in 110 rfl rfl⟩
set_option maxRecDepth 100000 in
theorem f_Interp_25 : xv_Fd "FaslDesk$Interpreter" 25 3 2 (.array (.object "FaslDesk$OpenForms")) := ⟨by decide, by decide, by decide +kernel, xv_in 111 rfl rfl⟩
set_option maxRecDepth 100000 in
theorem f_Interp_36 : xv_Fd "FaslDesk$Interpreter" 36 0 2 .int := ⟨by decide, by decide, by decide +kernel, xv_in 44 rfl rfl⟩
set_option maxRecDepth 100000 in
theorem f_Interp_51 : xv_Fd "FaslDesk$Interpreter" 51 0 3 .int := ⟨by decide, by decide, by decide +kernel, xv_in 48 rfl rfl⟩
set_option maxRecDepth 100000 in
theorem f_Interp_79 : xv_Fd "FaslDesk$Interpreter" 79 0 0 (.array .int) := ⟨by decide, by decide, by decide +kernel, xv_in 39 rfl rfl⟩
set_option maxRecDepth 100000 in
theorem f_Interp_87 : xv_Fd "FaslDesk$Interpreter" 87 1 0 (.array .int) := ⟨by decide, by decide, by decide +kernel, xv_in 82 rfl rfl⟩
set_option maxRecDepth 100000 in
theorem f_Interp_90 : xv_Fd "FaslDesk$Interpreter" 90 0 1 (.array .int) := ⟨by decide, by decide, by decide +kernel, xv_in 42 rfl rfl⟩
set_option maxRecDepth 100000 in
theorem f_Opens_9 : xv_Fd "FaslDesk$OpenForms" 9 2 0 (.array .int) := ⟨by decide, by decide, by decide +kernel, xv_in 98 rfl rfl⟩
set_option maxRecDepth 100000 in
theorem f_Opens_15 : xv_Fd "FaslDesk$OpenForms" 15 2 1 (.array .int) := ⟨by decide, by decide, by decide +kernel, xv_in 99 rfl rfl⟩
set_option maxRecDepth 100000 in
theorem f_Opens_18 : xv_Fd "FaslDesk$OpenForms" 18 2 2 .int := ⟨by decide, by decide, by decide +kernel, xv_in 100 rfl rfl⟩
set_option maxRecDepth 100000 in
theorem f_Model_7 : xv_Fd "FaslDeskModel" 7 11 0 (.array .int) := ⟨by decide, by decide, by decide +kernel, xv_in 814 rfl rfl⟩
set_option maxRecDepth 100000 in
theorem f_Model_13 : xv_Fd "FaslDeskModel" 13 11 1 (.array .int) := ⟨by decide, by decide, by decide +kernel, xv_in 815 rfl rfl⟩
set_option maxRecDepth 100000 in
theorem f_Model_16 : xv_Fd "FaslDeskModel" 16 11 2 (.array .int) := ⟨by decide, by decide, by decide +kernel, xv_in 816 rfl rfl⟩
set_option maxRecDepth 100000 in
theorem f_Model_19 : xv_Fd "FaslDeskModel" 19 11 3 (.array .int) := ⟨by decide, by decide, by decide +kernel, xv_in 817 rfl rfl⟩
set_option maxRecDepth 100000 in
theorem f_Model_22 : xv_Fd "FaslDeskModel" 22 11 4 (.array .int) := ⟨by decide, by decide, by decide +kernel, xv_in 818 rfl rfl⟩
set_option maxRecDepth 100000 in
theorem f_Model_25 : xv_Fd "FaslDeskModel" 25 11 5 (.array .int) := ⟨by decide, by decide, by decide +kernel, xv_in 819 rfl rfl⟩
set_option maxRecDepth 100000 in
theorem f_Model_28 : xv_Fd "FaslDeskModel" 28 11 6 (.array .int) := ⟨by decide, by decide, by decide +kernel, xv_in 820 rfl rfl⟩
set_option maxRecDepth 100000 in
theorem f_Model_31 : xv_Fd "FaslDeskModel" 31 11 7 (.array .int) := ⟨by decide, by decide, by decide +kernel, xv_in 821 rfl rfl⟩
set_option maxRecDepth 100000 in
theorem f_Model_34 : xv_Fd "FaslDeskModel" 34 11 8 (.array .int) := ⟨by decide, by decide, by decide +kernel, xv_in 822 rfl rfl⟩
set_option maxRecDepth 100000 in
theorem f_Model_37 : xv_Fd "FaslDeskModel" 37 11 9 (.array .int) := ⟨by decide, by decide, by decide +kernel, xv_in 823 rfl rfl⟩
set_option maxRecDepth 100000 in
theorem f_Model_40 : xv_Fd "FaslDeskModel" 40 11 10 (.array .int) := ⟨by decide, by decide, by decide +kernel, xv_in 824 rfl rfl⟩
set_option maxRecDepth 100000 in
theorem f_Model_43 : xv_Fd "FaslDeskModel" 43 11 11 (.array .int) := ⟨by decide, by decide, by decide +kernel, xv_in 825 rfl rfl⟩
set_option maxRecDepth 100000 in
theorem f_Model_46 : xv_Fd "FaslDeskModel" 46 11 12 (.array .boolean) := ⟨by decide, by decide, by decide +kernel, xv_in 826 rfl rfl⟩
set_option maxRecDepth 100000 in
theorem f_Model_50 : xv_Fd "FaslDeskModel" 50 11 13 (.array .boolean) := ⟨by decide, by decide, by decide +kernel, xv_in 827 rfl rfl⟩
set_option maxRecDepth 100000 in
theorem f_Model_53 : xv_Fd "FaslDeskModel" 53 11 14 (.array .boolean) := ⟨by decide, by decide, by decide +kernel, xv_in 828 rfl rfl⟩
set_option maxRecDepth 100000 in
theorem f_Model_56 : xv_Fd "FaslDeskModel" 56 11 15 (.array .boolean) := ⟨by decide, by decide, by decide +kernel, xv_in 829 rfl rfl⟩
set_option maxRecDepth 100000 in
theorem f_Model_59 : xv_Fd "FaslDeskModel" 59 11 16 (.array .int) := ⟨by decide, by decide, by decide +kernel, xv_in 830 rfl rfl⟩
set_option maxRecDepth 100000 in
theorem f_Model_62 : xv_Fd "FaslDeskModel" 62 11 17 (.array .int) := ⟨by decide, by decide, by decide +kernel, xv_in 831 rfl rfl⟩
set_option maxRecDepth 100000 in
theorem f_Model_65 : xv_Fd "FaslDeskModel" 65 11 18 (.array .int) := ⟨by decide, by decide, by decide +kernel, xv_in 832 rfl rfl⟩
set_option maxRecDepth 100000 in
theorem f_Model_68 : xv_Fd "FaslDeskModel" 68 11 19 (.array .int) := ⟨by decide, by decide, by decide +kernel, xv_in 833 rfl rfl⟩
set_option maxRecDepth 100000 in
theorem f_Model_71 : xv_Fd "FaslDeskModel" 71 11 20 (.array .int) := ⟨by decide, by decide, by decide +kernel, xv_in 834 rfl rfl⟩
set_option maxRecDepth 100000 in
theorem f_Model_74 : xv_Fd "FaslDeskModel" 74 11 21 (.array .int) := ⟨by decide, by decide, by decide +kernel, xv_in 835 rfl rfl⟩
set_option maxRecDepth 100000 in
theorem f_Model_77 : xv_Fd "FaslDeskModel" 77 11 22 (.array .int) := ⟨by decide, by decide, by decide +kernel, xv_in 836 rfl rfl⟩
set_option maxRecDepth 100000 in
theorem f_Model_80 : xv_Fd "FaslDeskModel" 80 11 23 (.array .int) := ⟨by decide, by decide, by decide +kernel, xv_in 837 rfl rfl⟩
set_option maxRecDepth 100000 in
theorem f_Model_83 : xv_Fd "FaslDeskModel" 83 11 24 (.array .int) := ⟨by decide, by decide, by decide +kernel, xv_in 838 rfl rfl⟩
set_option maxRecDepth 100000 in
theorem f_Model_86 : xv_Fd "FaslDeskModel" 86 11 25 (.array .int) := ⟨by decide, by decide, by decide +kernel, xv_in 839 rfl rfl⟩
set_option maxRecDepth 100000 in
theorem f_Model_89 : xv_Fd "FaslDeskModel" 89 11 26 (.array .int) := ⟨by decide, by decide, by decide +kernel, xv_in 840 rfl rfl⟩
set_option maxRecDepth 100000 in
theorem f_Model_92 : xv_Fd "FaslDeskModel" 92 11 27 (.array .int) := ⟨by decide, by decide, by decide +kernel, xv_in 841 rfl rfl⟩
set_option maxRecDepth 100000 in
theorem f_Model_95 : xv_Fd "FaslDeskModel" 95 11 28 (.array .int) := ⟨by decide, by decide, by decide +kernel, xv_in 842 rfl rfl⟩
set_option maxRecDepth 100000 in
theorem f_Model_98 : xv_Fd "FaslDeskModel" 98 11 34 .int := ⟨by decide, by decide, by decide +kernel, xv_in 848 rfl rfl⟩
set_option maxRecDepth 100000 in
theorem f_Model_125 : xv_Fd "FaslDeskModel" 125 11 36 .int := ⟨by decide, by decide, by decide +kernel, xv_in 850 rfl rfl⟩
set_option maxRecDepth 100000 in
theorem f_Model_155 : xv_Fd "FaslDeskModel" 155 11 35 .int := ⟨by decide, by decide, by decide +kernel, xv_in 849 rfl rfl⟩
set_option maxRecDepth 100000 in
theorem f_Model_172 : xv_Fd "FaslDeskModel" 172 11 31 .int := ⟨by decide, by decide, by decide +kernel, xv_in 845 rfl rfl⟩
set_option maxRecDepth 100000 in
theorem f_Model_181 : xv_Fd "FaslDeskModel" 181 11 30 .int := ⟨by decide, by decide, by decide +kernel, xv_in 844 rfl rfl⟩
set_option maxRecDepth 100000 in
theorem f_Model_184 : xv_Fd "FaslDeskModel" 184 11 29 .int := ⟨by decide, by decide, by decide +kernel, xv_in 843 rfl rfl⟩
set_option maxRecDepth 100000 in
theorem f_Model_191 : xv_Fd "FaslDeskModel" 191 11 33 .int := ⟨by decide, by decide, by decide +kernel, xv_in 847 rfl rfl⟩
set_option maxRecDepth 100000 in
theorem f_Model_201 : xv_Fd "FaslDeskModel" 201 11 32 .int := ⟨by decide, by decide, by decide +kernel, xv_in 846 rfl rfl⟩
theorem fin_0_0 : (xv_T 0 0).2.2.2 = true := rfl
theorem fin_0_1 : (xv_T 0 1).2.2.2 = true := rfl
theorem fin_0_2 : (xv_T 0 2).2.2.2 = false := rfl
theorem fin_0_3 : (xv_T 0 3).2.2.2 = false := rfl
theorem fin_0_4 : (xv_T 0 4).2.2.2 = true := rfl
theorem fin_1_0 : (xv_T 1 0).2.2.2 = true := rfl
theorem fin_1_1 : (xv_T 1 1).2.2.2 = true := rfl
theorem fin_1_2 : (xv_T 1 2).2.2.2 = false := rfl
theorem fin_2_0 : (xv_T 2 0).2.2.2 = true := rfl
theorem fin_2_1 : (xv_T 2 1).2.2.2 = true := rfl
theorem fin_2_2 : (xv_T 2 2).2.2.2 = false := rfl
theorem fin_3_0 : (xv_T 3 0).2.2.2 = true := rfl
theorem fin_3_1 : (xv_T 3 1).2.2.2 = true := rfl
theorem fin_3_2 : (xv_T 3 2).2.2.2 = true := rfl
theorem fin_4_0 : (xv_T 4 0).2.2.2 = true := rfl
theorem fin_4_1 : (xv_T 4 1).2.2.2 = true := rfl
theorem fin_4_2 : (xv_T 4 2).2.2.2 = true := rfl
theorem fin_4_3 : (xv_T 4 3).2.2.2 = false := rfl
theorem fin_5_0 : (xv_T 5 0).2.2.2 = true := rfl
theorem fin_5_1 : (xv_T 5 1).2.2.2 = true := rfl
theorem fin_5_2 : (xv_T 5 2).2.2.2 = false := rfl
theorem fin_5_3 : (xv_T 5 3).2.2.2 = false := rfl
theorem fin_5_4 : (xv_T 5 4).2.2.2 = false := rfl
theorem fin_5_5 : (xv_T 5 5).2.2.2 = false := rfl
theorem fin_5_6 : (xv_T 5 6).2.2.2 = false := rfl
theorem fin_5_7 : (xv_T 5 7).2.2.2 = true := rfl
theorem fin_5_8 : (xv_T 5 8).2.2.2 = false := rfl
theorem fin_5_9 : (xv_T 5 9).2.2.2 = false := rfl
theorem fin_6_0 : (xv_T 6 0).2.2.2 = false := rfl
theorem fin_6_1 : (xv_T 6 1).2.2.2 = false := rfl
theorem fin_6_2 : (xv_T 6 2).2.2.2 = false := rfl
theorem fin_6_3 : (xv_T 6 3).2.2.2 = false := rfl
theorem fin_7_0 : (xv_T 7 0).2.2.2 = true := rfl
theorem fin_7_1 : (xv_T 7 1).2.2.2 = true := rfl
theorem fin_7_2 : (xv_T 7 2).2.2.2 = false := rfl
theorem fin_7_3 : (xv_T 7 3).2.2.2 = false := rfl
theorem fin_8_0 : (xv_T 8 0).2.2.2 = true := rfl
theorem fin_8_1 : (xv_T 8 1).2.2.2 = false := rfl
theorem fin_8_2 : (xv_T 8 2).2.2.2 = false := rfl
theorem fin_8_3 : (xv_T 8 3).2.2.2 = false := rfl
theorem fin_8_4 : (xv_T 8 4).2.2.2 = false := rfl
theorem fin_8_5 : (xv_T 8 5).2.2.2 = true := rfl
theorem fin_9_0 : (xv_T 9 0).2.2.2 = true := rfl
theorem fin_9_1 : (xv_T 9 1).2.2.2 = true := rfl
theorem fin_10_0 : (xv_T 10 0).2.2.2 = true := rfl
theorem fin_10_1 : (xv_T 10 1).2.2.2 = true := rfl
theorem fin_10_2 : (xv_T 10 2).2.2.2 = true := rfl
theorem fin_10_3 : (xv_T 10 3).2.2.2 = true := rfl
theorem fin_10_4 : (xv_T 10 4).2.2.2 = true := rfl
theorem fin_10_5 : (xv_T 10 5).2.2.2 = false := rfl
theorem fin_10_6 : (xv_T 10 6).2.2.2 = false := rfl
theorem fin_10_7 : (xv_T 10 7).2.2.2 = false := rfl
theorem fin_11_0 : (xv_T 11 0).2.2.2 = true := rfl
theorem fin_11_1 : (xv_T 11 1).2.2.2 = true := rfl
theorem fin_11_2 : (xv_T 11 2).2.2.2 = true := rfl
theorem fin_11_3 : (xv_T 11 3).2.2.2 = true := rfl
theorem fin_11_4 : (xv_T 11 4).2.2.2 = true := rfl
theorem fin_11_5 : (xv_T 11 5).2.2.2 = true := rfl
theorem fin_11_6 : (xv_T 11 6).2.2.2 = true := rfl
theorem fin_11_7 : (xv_T 11 7).2.2.2 = true := rfl
theorem fin_11_8 : (xv_T 11 8).2.2.2 = true := rfl
theorem fin_11_9 : (xv_T 11 9).2.2.2 = true := rfl
theorem fin_11_10 : (xv_T 11 10).2.2.2 = true := rfl
theorem fin_11_11 : (xv_T 11 11).2.2.2 = true := rfl
theorem fin_11_12 : (xv_T 11 12).2.2.2 = true := rfl
theorem fin_11_13 : (xv_T 11 13).2.2.2 = true := rfl
theorem fin_11_14 : (xv_T 11 14).2.2.2 = true := rfl
theorem fin_11_15 : (xv_T 11 15).2.2.2 = true := rfl
theorem fin_11_16 : (xv_T 11 16).2.2.2 = true := rfl
theorem fin_11_17 : (xv_T 11 17).2.2.2 = true := rfl
theorem fin_11_18 : (xv_T 11 18).2.2.2 = true := rfl
theorem fin_11_19 : (xv_T 11 19).2.2.2 = true := rfl
theorem fin_11_20 : (xv_T 11 20).2.2.2 = true := rfl
theorem fin_11_21 : (xv_T 11 21).2.2.2 = true := rfl
theorem fin_11_22 : (xv_T 11 22).2.2.2 = true := rfl
theorem fin_11_23 : (xv_T 11 23).2.2.2 = true := rfl
theorem fin_11_24 : (xv_T 11 24).2.2.2 = true := rfl
theorem fin_11_25 : (xv_T 11 25).2.2.2 = true := rfl
theorem fin_11_26 : (xv_T 11 26).2.2.2 = true := rfl
theorem fin_11_27 : (xv_T 11 27).2.2.2 = true := rfl
theorem fin_11_28 : (xv_T 11 28).2.2.2 = true := rfl
theorem fin_11_29 : (xv_T 11 29).2.2.2 = false := rfl
theorem fin_11_30 : (xv_T 11 30).2.2.2 = false := rfl
theorem fin_11_31 : (xv_T 11 31).2.2.2 = false := rfl
theorem fin_11_32 : (xv_T 11 32).2.2.2 = false := rfl
theorem fin_11_33 : (xv_T 11 33).2.2.2 = false := rfl
theorem fin_11_34 : (xv_T 11 34).2.2.2 = false := rfl
theorem fin_11_35 : (xv_T 11 35).2.2.2 = false := rfl
theorem fin_11_36 : (xv_T 11 36).2.2.2 = false := rfl
set_option maxRecDepth 100000 in
theorem s_Check_41 : Cond.fieldLink "FaslDesk$CodeCheck" 41 (xv_sC 1) (xv_sn 1) "[I" ∈ xv_BIG := xv_in 537 rfl rfl
set_option maxRecDepth 100000 in
theorem s_Check_44 : Cond.fieldLink "FaslDesk$CodeCheck" 44 (xv_sC 2) (xv_sn 2) "[I" ∈ xv_BIG := xv_in 538 rfl rfl
set_option maxRecDepth 100000 in
theorem s_Comp_51 : Cond.fieldLink "FaslDesk$Compiler" 51 (xv_sC 2) (xv_sn 2) "[I" ∈ xv_BIG := xv_in 401 rfl rfl
set_option maxRecDepth 100000 in
theorem s_Comp_55 : Cond.fieldLink "FaslDesk$Compiler" 55 (xv_sC 1) (xv_sn 1) "[I" ∈ xv_BIG := xv_in 403 rfl rfl
set_option maxRecDepth 100000 in
theorem s_Comp_90 : Cond.fieldLink "FaslDesk$Compiler" 90 (xv_sC 0) (xv_sn 0) "[I" ∈ xv_BIG := xv_in 436 rfl rfl
set_option maxRecDepth 100000 in
theorem s_Form_50 : Cond.fieldLink "FaslDesk$Form" 50 (xv_sC 0) (xv_sn 0) "[I" ∈ xv_BIG := xv_in 359 rfl rfl
set_option maxRecDepth 100000 in
theorem s_Interp_104 : Cond.fieldLink "FaslDesk$Interpreter" 104 (xv_sC 0) (xv_sn 0) "[I" ∈ xv_BIG := xv_in 722 rfl rfl
set_option maxRecDepth 100000 in
theorem l_Desk_1 : Cond.methodLink "FaslDesk" 1 ⟨"java/lang/Object", "<init>", "()V"⟩ ∈ xv_BIG := xv_in 28 rfl rfl
set_option maxRecDepth 100000 in
theorem l_Desk_9 : Cond.methodLinkNest "FaslDesk" 9 ⟨"FaslDesk$Form", "<init>", "()V"⟩ "FaslDesk" ∈ xv_nest := List.mem_of_getElem? (i := 0) rfl
set_option maxRecDepth 100000 in
theorem l_Desk_18 : Cond.methodLink "FaslDesk" 18 ⟨"FaslDesk$Interpreter", "<init>", "()V"⟩ ∈ xv_BIG := xv_in 65 rfl rfl
set_option maxRecDepth 100000 in
theorem l_Desk_25 : Cond.methodLinkNest "FaslDesk" 25 ⟨"FaslDesk$Compiler", "<init>", "()V"⟩ "FaslDesk" ∈ xv_nest := List.mem_of_getElem? (i := 4) rfl
set_option maxRecDepth 100000 in
theorem l_Desk_32 : Cond.methodLink "FaslDesk" 32 ⟨"FaslDesk$Archive", "<init>", "()V"⟩ ∈ xv_BIG := xv_in 140 rfl rfl
set_option maxRecDepth 100000 in
theorem l_Desk_39 : Cond.methodLink "FaslDesk" 39 ⟨"FaslDesk$Image", "<init>", "()V"⟩ ∈ xv_BIG := xv_in 283 rfl rfl
set_option maxRecDepth 100000 in
theorem l_Desk_48 : Cond.methodLink "FaslDesk" 48 ⟨"FaslDesk$Form", "allows", "(II)Z"⟩ ∈ xv_BIG := xv_in 328 rfl rfl
set_option maxRecDepth 100000 in
theorem l_Desk_55 : Cond.methodLink "FaslDesk" 55 ⟨"FaslDesk$Form", "append", "(II)V"⟩ ∈ xv_BIG := xv_in 334 rfl rfl
set_option maxRecDepth 100000 in
theorem l_Desk_59 : Cond.methodLink "FaslDesk" 59 ⟨"FaslDesk", "within", "(III)Z"⟩ ∈ xv_BIG := xv_in 342 rfl rfl
set_option maxRecDepth 100000 in
theorem l_Desk_63 : Cond.methodLink "FaslDesk" 63 ⟨"FaslDesk$Form", "isOneFormOf", "(II)Z"⟩ ∈ xv_BIG := xv_in 343 rfl rfl
set_option maxRecDepth 100000 in
theorem l_Desk_70 : Cond.methodLink "FaslDesk" 70 ⟨"FaslDesk$Form", "becomes", "(LFaslDesk$Form;I)V"⟩ ∈ xv_BIG := xv_in 361 rfl rfl
set_option maxRecDepth 100000 in
theorem l_Desk_74 : Cond.methodLinkNest "FaslDesk" 74 ⟨"FaslDesk$Interpreter", "answer", "(IIII)I"⟩ "FaslDesk" ∈ xv_nest := List.mem_of_getElem? (i := 14) rfl
set_option maxRecDepth 100000 in
theorem l_Desk_78 : Cond.methodLink "FaslDesk" 78 ⟨"FaslDesk$Interpreter", "has", "(I)Z"⟩ ∈ xv_BIG := xv_in 376 rfl rfl
set_option maxRecDepth 100000 in
theorem l_Desk_82 : Cond.methodLink "FaslDesk" 82 ⟨"FaslDesk$Archive", "placeFor", "(I)I"⟩ ∈ xv_BIG := xv_in 381 rfl rfl
set_option maxRecDepth 100000 in
theorem l_Desk_90 : Cond.methodLink "FaslDesk" 90 ⟨"FaslDesk$Compiler", "translate", "(LFaslDesk$Form;LFaslDesk$Entry;)V"⟩ ∈ xv_BIG := xv_in 385 rfl rfl
set_option maxRecDepth 100000 in
theorem l_Desk_94 : Cond.methodLink "FaslDesk" 94 ⟨"FaslDesk$Entry", "finishFor", "(I)V"⟩ ∈ xv_BIG := xv_in 437 rfl rfl
set_option maxRecDepth 100000 in
theorem l_Desk_100 : Cond.methodLink "FaslDesk" 100 ⟨"FaslDesk$Archive", "keepWith", "(I)V"⟩ ∈ xv_BIG := xv_in 446 rfl rfl
set_option maxRecDepth 100000 in
theorem l_Desk_103 : Cond.methodLink "FaslDesk" 103 ⟨"FaslDesk", "damageMagic", "(I)I"⟩ ∈ xv_BIG := xv_in 455 rfl rfl
set_option maxRecDepth 100000 in
theorem l_Desk_106 : Cond.methodLink "FaslDesk" 106 ⟨"FaslDesk", "damageStated", "(I)I"⟩ ∈ xv_BIG := xv_in 459 rfl rfl
set_option maxRecDepth 100000 in
theorem l_Desk_109 : Cond.methodLink "FaslDesk" 109 ⟨"FaslDesk", "damageNumber", "(II)I"⟩ ∈ xv_BIG := xv_in 463 rfl rfl
set_option maxRecDepth 100000 in
theorem l_Desk_113 : Cond.methodLink "FaslDesk" 113 ⟨"FaslDesk", "damageOctet", "(I)I"⟩ ∈ xv_BIG := xv_in 471 rfl rfl
set_option maxRecDepth 100000 in
theorem l_Desk_116 : Cond.methodLink "FaslDesk" 116 ⟨"FaslDesk", "sealAnew", "(I)I"⟩ ∈ xv_BIG := xv_in 475 rfl rfl
set_option maxRecDepth 100000 in
theorem l_Desk_119 : Cond.methodLink "FaslDesk" 119 ⟨"FaslDesk", "hasUnit", "(II)Z"⟩ ∈ xv_BIG := xv_in 484 rfl rfl
set_option maxRecDepth 100000 in
theorem l_Desk_122 : Cond.methodLink "FaslDesk" 122 ⟨"FaslDesk$Code", "forgeable", "(I)Z"⟩ ∈ xv_BIG := xv_in 488 rfl rfl
set_option maxRecDepth 100000 in
theorem l_Desk_139 : Cond.methodLink "FaslDesk" 139 ⟨"FaslDesk$Archive", "has", "(I)Z"⟩ ∈ xv_BIG := xv_in 467 rfl rfl
set_option maxRecDepth 100000 in
theorem l_Desk_140 : Cond.methodLink "FaslDesk" 140 ⟨"FaslDesk$Archive", "remove", "(I)I"⟩ ∈ xv_BIG := xv_in 496 rfl rfl
set_option maxRecDepth 100000 in
theorem l_Desk_143 : Cond.methodLink "FaslDesk" 143 ⟨"FaslDesk$Archive", "findFault", "()I"⟩ ∈ xv_BIG := xv_in 504 rfl rfl
set_option maxRecDepth 100000 in
theorem l_Desk_153 : Cond.methodLink "FaslDesk" 153 ⟨"FaslDesk$Image", "remake", "(LFaslDesk$Archive;)V"⟩ ∈ xv_BIG := xv_in 539 rfl rfl
set_option maxRecDepth 100000 in
theorem l_Desk_160 : Cond.methodLink "FaslDesk" 160 ⟨"FaslDesk$Image", "has", "(I)Z"⟩ ∈ xv_BIG := xv_in 766 rfl rfl
set_option maxRecDepth 100000 in
theorem l_Desk_165 : Cond.methodLink "FaslDesk" 165 ⟨"java/util/NoSuchElementException", "<init>", "(Ljava/lang/String;)V"⟩ ∈ xv_BIG := xv_in 769 rfl rfl
set_option maxRecDepth 100000 in
theorem l_Desk_168 : Cond.methodLinkNest "FaslDesk" 168 ⟨"FaslDesk$Image", "answer", "(IIII)I"⟩ "FaslDesk" ∈ xv_nest := List.mem_of_getElem? (i := 15) rfl
set_option maxRecDepth 100000 in
theorem l_Desk_182 : Cond.methodLink "FaslDesk" 182 ⟨"FaslDesk$Entry", "sealGoes", "()Z"⟩ ∈ xv_BIG := xv_in 552 rfl rfl
set_option maxRecDepth 100000 in
theorem l_Desk_192 : Cond.methodLink "FaslDesk" 192 ⟨"FaslDesk$Interpreter", "size", "()I"⟩ ∈ xv_BIG := xv_in 561 rfl rfl
set_option maxRecDepth 100000 in
theorem l_Desk_200 : Cond.methodLink "FaslDesk" 200 ⟨"FaslDesk$Image", "size", "()I"⟩ ∈ xv_BIG := xv_in 566 rfl rfl
set_option maxRecDepth 100000 in
theorem l_Desk_208 : Cond.methodLink "FaslDesk" 208 ⟨"FaslDesk$Entry", "makeSeal", "()V"⟩ ∈ xv_BIG := xv_in 479 rfl rfl
set_option maxRecDepth 100000 in
theorem l_Arch_3 : Cond.methodLink "FaslDesk$Archive" 3 ⟨"java/lang/Object", "<init>", "()V"⟩ ∈ xv_BIG := xv_in 143 rfl rfl
set_option maxRecDepth 100000 in
theorem l_Arch_19 : Cond.methodLinkNest "FaslDesk$Archive" 19 ⟨"FaslDesk$CodeCheck", "<init>", "()V"⟩ "FaslDesk" ∈ xv_nest := List.mem_of_getElem? (i := 5) rfl
set_option maxRecDepth 100000 in
theorem l_Arch_24 : Cond.methodLinkNest "FaslDesk$Archive" 24 ⟨"FaslDesk$Entry", "<init>", "()V"⟩ "FaslDesk" ∈ xv_nest := List.mem_of_getElem? (i := 6) rfl
set_option maxRecDepth 100000 in
theorem l_Arch_32 : Cond.methodLink "FaslDesk$Archive" 32 ⟨"java/lang/Math", "max", "(II)I"⟩ ∈ xv_BIG := xv_in 450 rfl rfl
set_option maxRecDepth 100000 in
theorem l_Arch_47 : Cond.methodLink "FaslDesk$Archive" 47 ⟨"FaslDesk$Archive", "findOddEntry", "()I"⟩ ∈ xv_BIG := xv_in 508 rfl rfl
set_option maxRecDepth 100000 in
theorem l_Arch_51 : Cond.methodLink "FaslDesk$Archive" 51 ⟨"FaslDesk$Archive", "findOddClass", "()I"⟩ ∈ xv_BIG := xv_in 517 rfl rfl
set_option maxRecDepth 100000 in
theorem l_Arch_54 : Cond.methodLink "FaslDesk$Archive" 54 ⟨"FaslDesk$Archive", "findOddCode", "()I"⟩ ∈ xv_BIG := xv_in 521 rfl rfl
set_option maxRecDepth 100000 in
theorem l_Arch_57 : Cond.methodLink "FaslDesk$Archive" 57 ⟨"FaslDesk$Entry", "sealGoes", "()Z"⟩ ∈ xv_BIG := xv_in 512 rfl rfl
set_option maxRecDepth 100000 in
theorem l_Arch_61 : Cond.methodLink "FaslDesk$Archive" 61 ⟨"FaslDesk$Archive", "placeFor", "(I)I"⟩ ∈ xv_BIG := xv_in 516 rfl rfl
set_option maxRecDepth 100000 in
theorem l_Arch_79 : Cond.methodLink "FaslDesk$Archive" 79 ⟨"FaslDesk$CodeCheck", "goes", "(LFaslDesk$Code;I)Z"⟩ ∈ xv_BIG := xv_in 525 rfl rfl
set_option maxRecDepth 100000 in
theorem l_Code_3 : Cond.methodLink "FaslDesk$Code" 3 ⟨"java/lang/Object", "<init>", "()V"⟩ ∈ xv_BIG := xv_in 175 rfl rfl
set_option maxRecDepth 100000 in
theorem l_Code_21 : Cond.methodLinkNest "FaslDesk$Code" 21 ⟨"FaslDesk", "within", "(III)Z"⟩ "FaslDesk" ∈ xv_nest := List.mem_of_getElem? (i := 12) rfl
set_option maxRecDepth 100000 in
theorem l_Code_29 : Cond.methodLink "FaslDesk$Code" 29 ⟨"java/lang/System", "arraycopy", "(Ljava/lang/Object;ILjava/lang/Object;II)V"⟩ ∈ xv_BIG := xv_in 547 rfl rfl
set_option maxRecDepth 100000 in
theorem l_Check_3 : Cond.methodLink "FaslDesk$CodeCheck" 3 ⟨"java/lang/Object", "<init>", "()V"⟩ ∈ xv_BIG := xv_in 151 rfl rfl
set_option maxRecDepth 100000 in
theorem l_Check_31 : Cond.methodLink "FaslDesk$CodeCheck" 31 ⟨"FaslDesk$CodeCheck", "reach", "(II)Z"⟩ ∈ xv_BIG := xv_in 529 rfl rfl
set_option maxRecDepth 100000 in
theorem l_Check_35 : Cond.methodLink "FaslDesk$CodeCheck" 35 ⟨"FaslDesk$CodeCheck", "passes", "(II)Z"⟩ ∈ xv_BIG := xv_in 533 rfl rfl
set_option maxRecDepth 100000 in
theorem l_Comp_3 : Cond.methodLink "FaslDesk$Compiler" 3 ⟨"java/lang/Object", "<init>", "()V"⟩ ∈ xv_BIG := xv_in 124 rfl rfl
set_option maxRecDepth 100000 in
theorem l_Comp_35 : Cond.methodLink "FaslDesk$Compiler" 35 ⟨"FaslDesk$Entry", "startWith", "(I)V"⟩ ∈ xv_BIG := xv_in 389 rfl rfl
set_option maxRecDepth 100000 in
theorem l_Comp_41 : Cond.methodLink "FaslDesk$Compiler" 41 ⟨"FaslDesk$Compiler", "emit", "(II)V"⟩ ∈ xv_BIG := xv_in 393 rfl rfl
set_option maxRecDepth 100000 in
theorem l_Comp_45 : Cond.methodLink "FaslDesk$Compiler" 45 ⟨"FaslDesk$Compiler", "emitForm", "(I)V"⟩ ∈ xv_BIG := xv_in 408 rfl rfl
set_option maxRecDepth 100000 in
theorem l_Comp_48 : Cond.methodLink "FaslDesk$Compiler" 48 ⟨"FaslDesk$Code", "append", "(II)V"⟩ ∈ xv_BIG := xv_in 397 rfl rfl
set_option maxRecDepth 100000 in
theorem l_Comp_61 : Cond.methodLink "FaslDesk$Compiler" 61 ⟨"java/lang/Math", "max", "(II)I"⟩ ∈ xv_BIG := xv_in 405 rfl rfl
set_option maxRecDepth 100000 in
theorem l_Comp_81 : Cond.methodLink "FaslDesk$Compiler" 81 ⟨"FaslDesk$Compiler", "emitIf", "(I)V"⟩ ∈ xv_BIG := xv_in 412 rfl rfl
set_option maxRecDepth 100000 in
theorem l_Comp_84 : Cond.methodLink "FaslDesk$Compiler" 84 ⟨"FaslDesk$Form", "start", "(II)I"⟩ ∈ xv_BIG := xv_in 416 rfl rfl
set_option maxRecDepth 100000 in
theorem l_Comp_87 : Cond.methodLink "FaslDesk$Compiler" 87 ⟨"FaslDesk$Compiler", "emitTimes", "(I)V"⟩ ∈ xv_BIG := xv_in 428 rfl rfl
set_option maxRecDepth 100000 in
theorem l_Comp_93 : Cond.methodLink "FaslDesk$Compiler" 93 ⟨"FaslDesk$Compiler", "setSecond", "(II)V"⟩ ∈ xv_BIG := xv_in 420 rfl rfl
set_option maxRecDepth 100000 in
theorem l_Comp_96 : Cond.methodLink "FaslDesk$Compiler" 96 ⟨"FaslDesk$Compiler", "setFirst", "(II)V"⟩ ∈ xv_BIG := xv_in 424 rfl rfl
set_option maxRecDepth 100000 in
theorem l_Comp_99 : Cond.methodLink "FaslDesk$Compiler" 99 ⟨"FaslDesk$Compiler", "emitOfTimes", "(I)V"⟩ ∈ xv_BIG := xv_in 432 rfl rfl
set_option maxRecDepth 100000 in
theorem l_Entry_3 : Cond.methodLink "FaslDesk$Entry" 3 ⟨"java/lang/Object", "<init>", "()V"⟩ ∈ xv_BIG := xv_in 169 rfl rfl
set_option maxRecDepth 100000 in
theorem l_Entry_11 : Cond.methodLinkNest "FaslDesk$Entry" 11 ⟨"FaslDesk$Code", "<init>", "()V"⟩ "FaslDesk" ∈ xv_nest := List.mem_of_getElem? (i := 7) rfl
set_option maxRecDepth 100000 in
theorem l_Entry_46 : Cond.methodLink "FaslDesk$Entry" 46 ⟨"FaslDesk$Entry", "makeSeal", "()V"⟩ ∈ xv_BIG := xv_in 441 rfl rfl
set_option maxRecDepth 100000 in
theorem l_Entry_58 : Cond.methodLink "FaslDesk$Entry" 58 ⟨"java/lang/System", "arraycopy", "(Ljava/lang/Object;ILjava/lang/Object;II)V"⟩ ∈ xv_BIG := xv_in 445 rfl rfl
set_option maxRecDepth 100000 in
theorem l_Form_3 : Cond.methodLink "FaslDesk$Form" 3 ⟨"java/lang/Object", "<init>", "()V"⟩ ∈ xv_BIG := xv_in 36 rfl rfl
set_option maxRecDepth 100000 in
theorem l_Form_21 : Cond.methodLinkNest "FaslDesk$Form" 21 ⟨"FaslDesk", "within", "(III)Z"⟩ "FaslDesk" ∈ xv_nest := List.mem_of_getElem? (i := 10) rfl
set_option maxRecDepth 100000 in
theorem l_Form_29 : Cond.methodLink "FaslDesk$Form" 29 ⟨"java/lang/System", "arraycopy", "(Ljava/lang/Object;ILjava/lang/Object;II)V"⟩ ∈ xv_BIG := xv_in 365 rfl rfl
set_option maxRecDepth 100000 in
theorem l_Form_38 : Cond.methodLink "FaslDesk$Form" 38 ⟨"FaslDesk$Form", "callsGo", "(I)Z"⟩ ∈ xv_BIG := xv_in 347 rfl rfl
set_option maxRecDepth 100000 in
theorem l_Form_42 : Cond.methodLink "FaslDesk$Form" 42 ⟨"FaslDesk$Form", "endOf", "(IIII)I"⟩ ∈ xv_BIG := xv_in 351 rfl rfl
set_option maxRecDepth 100000 in
theorem l_Form_46 : Cond.methodLink "FaslDesk$Form" 46 ⟨"FaslDesk$Form", "mayStand", "(IIII)Z"⟩ ∈ xv_BIG := xv_in 355 rfl rfl
set_option maxRecDepth 100000 in
theorem l_Frame_3 : Cond.methodLink "FaslDesk$Frame" 3 ⟨"java/lang/Object", "<init>", "()V"⟩ ∈ xv_BIG := xv_in 80 rfl rfl
set_option maxRecDepth 100000 in
theorem l_Frame_18 : Cond.methodLink "FaslDesk$Frame" 18 ⟨"java/util/Arrays", "fill", "([II)V"⟩ ∈ xv_BIG := xv_in 660 rfl rfl
set_option maxRecDepth 100000 in
theorem l_Image_3 : Cond.methodLink "FaslDesk$Image" 3 ⟨"java/lang/Object", "<init>", "()V"⟩ ∈ xv_BIG := xv_in 286 rfl rfl
set_option maxRecDepth 100000 in
theorem l_Image_23 : Cond.methodLinkNest "FaslDesk$Image" 23 ⟨"FaslDesk$Code", "<init>", "()V"⟩ "FaslDesk" ∈ xv_nest := List.mem_of_getElem? (i := 8) rfl
set_option maxRecDepth 100000 in
theorem l_Image_24 : Cond.methodLinkNest "FaslDesk$Image" 24 ⟨"FaslDesk$Frame", "<init>", "()V"⟩ "FaslDesk" ∈ xv_nest := List.mem_of_getElem? (i := 9) rfl
set_option maxRecDepth 100000 in
theorem l_Image_25 : Cond.methodLinkNest "FaslDesk$Image" 25 ⟨"FaslDesk", "within", "(III)Z"⟩ "FaslDesk" ∈ xv_nest := List.mem_of_getElem? (i := 13) rfl
set_option maxRecDepth 100000 in
theorem l_Image_33 : Cond.methodLink "FaslDesk$Image" 33 ⟨"FaslDesk$Image", "has", "(I)Z"⟩ ∈ xv_BIG := xv_in 570 rfl rfl
set_option maxRecDepth 100000 in
theorem l_Image_55 : Cond.methodLink "FaslDesk$Image" 55 ⟨"FaslDesk$Code", "becomes", "(LFaslDesk$Code;)V"⟩ ∈ xv_BIG := xv_in 543 rfl rfl
set_option maxRecDepth 100000 in
theorem l_Image_59 : Cond.methodLink "FaslDesk$Image" 59 ⟨"FaslDesk$Frame", "begin", "(IIII)V"⟩ ∈ xv_BIG := xv_in 774 rfl rfl
set_option maxRecDepth 100000 in
theorem l_Image_68 : Cond.methodLink "FaslDesk$Image" 68 ⟨"FaslDesk$Image", "perform", "(II)I"⟩ ∈ xv_BIG := xv_in 776 rfl rfl
set_option maxRecDepth 100000 in
theorem l_Image_72 : Cond.methodLink "FaslDesk$Image" 72 ⟨"FaslDesk$Frame", "pop", "()I"⟩ ∈ xv_BIG := xv_in 781 rfl rfl
set_option maxRecDepth 100000 in
theorem l_Image_79 : Cond.methodLink "FaslDesk$Image" 79 ⟨"FaslDesk$Frame", "push", "(I)V"⟩ ∈ xv_BIG := xv_in 780 rfl rfl
set_option maxRecDepth 100000 in
theorem l_Image_86 : Cond.methodLink "FaslDesk$Image" 86 ⟨"FaslDesk$Ints", "isAsSaid", "(II)Z"⟩ ∈ xv_BIG := xv_in 782 rfl rfl
set_option maxRecDepth 100000 in
theorem l_Image_95 : Cond.methodLink "FaslDesk$Image" 95 ⟨"FaslDesk$Image", "answerOfLower", "(II)I"⟩ ∈ xv_BIG := xv_in 783 rfl rfl
set_option maxRecDepth 100000 in
theorem l_Image_98 : Cond.methodLink "FaslDesk$Image" 98 ⟨"FaslDesk$Image", "rework", "(ILFaslDesk$Frame;)V"⟩ ∈ xv_BIG := xv_in 804 rfl rfl
set_option maxRecDepth 100000 in
theorem l_Image_102 : Cond.methodLink "FaslDesk$Image" 102 ⟨"FaslDesk$Ints", "reckon", "(III)I"⟩ ∈ xv_BIG := xv_in 807 rfl rfl
set_option maxRecDepth 100000 in
theorem l_Image_110 : Cond.methodLink "FaslDesk$Image" 110 ⟨"java/lang/IllegalStateException", "<init>", "(Ljava/lang/String;)V"⟩ ∈ xv_BIG := xv_in 797 rfl rfl
set_option maxRecDepth 100000 in
theorem l_Image_113 : Cond.methodLink "FaslDesk$Image" 113 ⟨"FaslDesk$Image", "answer", "(IIII)I"⟩ ∈ xv_BIG := xv_in 803 rfl rfl
set_option maxRecDepth 100000 in
theorem l_Interp_3 : Cond.methodLink "FaslDesk$Interpreter" 3 ⟨"java/lang/Object", "<init>", "()V"⟩ ∈ xv_BIG := xv_in 68 rfl rfl
set_option maxRecDepth 100000 in
theorem l_Interp_29 : Cond.methodLinkNest "FaslDesk$Interpreter" 29 ⟨"FaslDesk$Form", "<init>", "()V"⟩ "FaslDesk" ∈ xv_nest := List.mem_of_getElem? (i := 1) rfl
set_option maxRecDepth 100000 in
theorem l_Interp_30 : Cond.methodLinkNest "FaslDesk$Interpreter" 30 ⟨"FaslDesk$Frame", "<init>", "()V"⟩ "FaslDesk" ∈ xv_nest := List.mem_of_getElem? (i := 2) rfl
set_option maxRecDepth 100000 in
theorem l_Interp_31 : Cond.methodLinkNest "FaslDesk$Interpreter" 31 ⟨"FaslDesk$OpenForms", "<init>", "()V"⟩ "FaslDesk" ∈ xv_nest := List.mem_of_getElem? (i := 3) rfl
set_option maxRecDepth 100000 in
theorem l_Interp_32 : Cond.methodLinkNest "FaslDesk$Interpreter" 32 ⟨"FaslDesk", "within", "(III)Z"⟩ "FaslDesk" ∈ xv_nest := List.mem_of_getElem? (i := 11) rfl
set_option maxRecDepth 100000 in
theorem l_Interp_40 : Cond.methodLink "FaslDesk$Interpreter" 40 ⟨"FaslDesk$Interpreter", "has", "(I)Z"⟩ ∈ xv_BIG := xv_in 565 rfl rfl
set_option maxRecDepth 100000 in
theorem l_Interp_48 : Cond.methodLink "FaslDesk$Interpreter" 48 ⟨"java/util/NoSuchElementException", "<init>", "(Ljava/lang/String;)V"⟩ ∈ xv_BIG := xv_in 630 rfl rfl
set_option maxRecDepth 100000 in
theorem l_Interp_54 : Cond.methodLink "FaslDesk$Interpreter" 54 ⟨"FaslDesk$Frame", "begin", "(IIII)V"⟩ ∈ xv_BIG := xv_in 656 rfl rfl
set_option maxRecDepth 100000 in
theorem l_Interp_58 : Cond.methodLink "FaslDesk$Interpreter" 58 ⟨"FaslDesk$OpenForms", "begin", "()V"⟩ ∈ xv_BIG := xv_in 663 rfl rfl
set_option maxRecDepth 100000 in
theorem l_Interp_61 : Cond.methodLink "FaslDesk$Interpreter" 61 ⟨"FaslDesk$OpenForms", "isEmpty", "()Z"⟩ ∈ xv_BIG := xv_in 672 rfl rfl
set_option maxRecDepth 100000 in
theorem l_Interp_65 : Cond.methodLink "FaslDesk$Interpreter" 65 ⟨"FaslDesk$Interpreter", "advance", "(I)V"⟩ ∈ xv_BIG := xv_in 676 rfl rfl
set_option maxRecDepth 100000 in
theorem l_Interp_69 : Cond.methodLink "FaslDesk$Interpreter" 69 ⟨"FaslDesk$Frame", "pop", "()I"⟩ ∈ xv_BIG := xv_in 693 rfl rfl
set_option maxRecDepth 100000 in
theorem l_Interp_73 : Cond.methodLink "FaslDesk$Interpreter" 73 ⟨"FaslDesk$OpenForms", "place", "()I"⟩ ∈ xv_BIG := xv_in 680 rfl rfl
set_option maxRecDepth 100000 in
theorem l_Interp_76 : Cond.methodLink "FaslDesk$Interpreter" 76 ⟨"FaslDesk$OpenForms", "partsDone", "()I"⟩ ∈ xv_BIG := xv_in 685 rfl rfl
set_option maxRecDepth 100000 in
theorem l_Interp_83 : Cond.methodLink "FaslDesk$Interpreter" 83 ⟨"FaslDesk$Interpreter", "choose", "(II)V"⟩ ∈ xv_BIG := xv_in 689 rfl rfl
set_option maxRecDepth 100000 in
theorem l_Interp_93 : Cond.methodLink "FaslDesk$Interpreter" 93 ⟨"FaslDesk$Form", "start", "(II)I"⟩ ∈ xv_BIG := xv_in 700 rfl rfl
set_option maxRecDepth 100000 in
theorem l_Interp_97 : Cond.methodLink "FaslDesk$Interpreter" 97 ⟨"FaslDesk$OpenForms", "goOnAs", "(I)V"⟩ ∈ xv_BIG := xv_in 701 rfl rfl
set_option maxRecDepth 100000 in
theorem l_Interp_100 : Cond.methodLink "FaslDesk$Interpreter" 100 ⟨"FaslDesk$Interpreter", "goRound", "(IIZ)V"⟩ ∈ xv_BIG := xv_in 709 rfl rfl
set_option maxRecDepth 100000 in
theorem l_Interp_107 : Cond.methodLink "FaslDesk$Interpreter" 107 ⟨"FaslDesk$OpenForms", "enterPart", "(I)V"⟩ ∈ xv_BIG := xv_in 713 rfl rfl
set_option maxRecDepth 100000 in
theorem l_Interp_110 : Cond.methodLink "FaslDesk$Interpreter" 110 ⟨"FaslDesk$OpenForms", "leave", "()V"⟩ ∈ xv_BIG := xv_in 717 rfl rfl
set_option maxRecDepth 100000 in
theorem l_Interp_113 : Cond.methodLink "FaslDesk$Interpreter" 113 ⟨"FaslDesk$Interpreter", "finish", "(III)V"⟩ ∈ xv_BIG := xv_in 723 rfl rfl
set_option maxRecDepth 100000 in
theorem l_Interp_117 : Cond.methodLink "FaslDesk$Interpreter" 117 ⟨"FaslDesk$Ints", "isAsSaid", "(II)Z"⟩ ∈ xv_BIG := xv_in 697 rfl rfl
set_option maxRecDepth 100000 in
theorem l_Interp_123 : Cond.methodLink "FaslDesk$Interpreter" 123 ⟨"FaslDesk$Frame", "push", "(I)V"⟩ ∈ xv_BIG := xv_in 718 rfl rfl
set_option maxRecDepth 100000 in
theorem l_Interp_126 : Cond.methodLink "FaslDesk$Interpreter" 126 ⟨"FaslDesk$Frame", "top", "()I"⟩ ∈ xv_BIG := xv_in 727 rfl rfl
set_option maxRecDepth 100000 in
theorem l_Interp_129 : Cond.methodLink "FaslDesk$Interpreter" 129 ⟨"FaslDesk$Interpreter", "answerOfLower", "(II)I"⟩ ∈ xv_BIG := xv_in 731 rfl rfl
set_option maxRecDepth 100000 in
theorem l_Interp_132 : Cond.methodLink "FaslDesk$Interpreter" 132 ⟨"FaslDesk$Ints", "reckon", "(III)I"⟩ ∈ xv_BIG := xv_in 736 rfl rfl
set_option maxRecDepth 100000 in
theorem l_Interp_136 : Cond.methodLink "FaslDesk$Interpreter" 136 ⟨"FaslDesk$Interpreter", "answer", "(IIII)I"⟩ ∈ xv_BIG := xv_in 735 rfl rfl
set_option maxRecDepth 100000 in
theorem l_Ints_7 : Cond.methodLink "FaslDesk$Ints" 7 ⟨"FaslDesk$Ints", "divisor", "(I)I"⟩ ∈ xv_BIG := xv_in 739 rfl rfl
set_option maxRecDepth 100000 in
theorem l_Ints_17 : Cond.methodLink "FaslDesk$Ints" 17 ⟨"java/lang/ArithmeticException", "<init>", "(Ljava/lang/String;)V"⟩ ∈ xv_BIG := xv_in 752 rfl rfl
set_option maxRecDepth 100000 in
theorem l_Opens_3 : Cond.methodLink "FaslDesk$OpenForms" 3 ⟨"java/lang/Object", "<init>", "()V"⟩ ∈ xv_BIG := xv_in 97 rfl rfl
set_option maxRecDepth 100000 in
theorem l_Opens_22 : Cond.methodLink "FaslDesk$OpenForms" 22 ⟨"FaslDesk$OpenForms", "enter", "(I)V"⟩ ∈ xv_BIG := xv_in 667 rfl rfl
set_option maxRecDepth 100000 in
theorem l_Opens_26 : Cond.methodLink "FaslDesk$OpenForms" 26 ⟨"FaslDesk$OpenForms", "isEmpty", "()Z"⟩ ∈ xv_BIG := xv_in 684 rfl rfl
set_option maxRecDepth 100000 in
theorem l_Opens_30 : Cond.methodLink "FaslDesk$OpenForms" 30 ⟨"FaslDesk$OpenForms", "leave", "()V"⟩ ∈ xv_BIG := xv_in 705 rfl rfl
set_option maxRecDepth 100000 in
theorem l_Law_7 : Cond.methodLink "FaslDeskLaw" 7 ⟨"FaslDesk", "interpret", "(IIII)I"⟩ ∈ xv_BIG := xv_in 580 rfl rfl
set_option maxRecDepth 100000 in
theorem l_Law_17 : Cond.methodLink "FaslDeskLaw" 17 ⟨"FaslDesk", "run", "(IIII)I"⟩ ∈ xv_BIG := xv_in 762 rfl rfl
set_option maxRecDepth 100000 in
theorem l_Law_22 : Cond.methodLink "FaslDeskLaw" 22 ⟨"FaslDesk", "<init>", "()V"⟩ ∈ xv_BIG := xv_in 25 rfl rfl
set_option maxRecDepth 100000 in
theorem l_Law_25 : Cond.methodLink "FaslDeskLaw" 25 ⟨"FaslDeskModel", "<init>", "()V"⟩ ∈ xv_BIG := xv_in 810 rfl rfl
set_option maxRecDepth 100000 in
theorem l_Law_26 : Cond.methodLink "FaslDeskLaw" 26 ⟨"FaslDesk", "token", "(II)I"⟩ ∈ xv_BIG := xv_in 324 rfl rfl
set_option maxRecDepth 100000 in
theorem l_Law_30 : Cond.methodLink "FaslDeskLaw" 30 ⟨"FaslDeskModel", "token", "(II)I"⟩ ∈ xv_BIG := xv_in 926 rfl rfl
set_option maxRecDepth 100000 in
theorem l_Law_31 : Cond.methodLink "FaslDeskLaw" 31 ⟨"FaslDesk", "define", "(II)I"⟩ ∈ xv_BIG := xv_in 338 rfl rfl
set_option maxRecDepth 100000 in
theorem l_Law_34 : Cond.methodLink "FaslDeskLaw" 34 ⟨"FaslDeskModel", "define", "(II)I"⟩ ∈ xv_BIG := xv_in 940 rfl rfl
set_option maxRecDepth 100000 in
theorem l_Law_35 : Cond.methodLink "FaslDeskLaw" 35 ⟨"FaslDesk", "clear", "()I"⟩ ∈ xv_BIG := xv_in 368 rfl rfl
set_option maxRecDepth 100000 in
theorem l_Law_39 : Cond.methodLink "FaslDeskLaw" 39 ⟨"FaslDeskModel", "clear", "()I"⟩ ∈ xv_BIG := xv_in 936 rfl rfl
set_option maxRecDepth 100000 in
theorem l_Law_40 : Cond.methodLink "FaslDeskLaw" 40 ⟨"FaslDeskLaw", "interpret", "(LFaslDesk;IIII[J)I"⟩ ∈ xv_BIG := xv_in 575 rfl rfl
set_option maxRecDepth 100000 in
theorem l_Law_45 : Cond.methodLink "FaslDeskLaw" 45 ⟨"FaslDeskModel", "interpret", "(IIII)I"⟩ ∈ xv_BIG := xv_in 985 rfl rfl
set_option maxRecDepth 100000 in
theorem l_Law_46 : Cond.methodLink "FaslDeskLaw" 46 ⟨"FaslDeskModel", "thrown", "()I"⟩ ∈ xv_BIG := xv_in 1011 rfl rfl
set_option maxRecDepth 100000 in
theorem l_Law_49 : Cond.methodLink "FaslDeskLaw" 49 ⟨"FaslDesk", "compile", "(I)I"⟩ ∈ xv_BIG := xv_in 372 rfl rfl
set_option maxRecDepth 100000 in
theorem l_Law_53 : Cond.methodLink "FaslDeskLaw" 53 ⟨"FaslDeskModel", "compile", "(I)I"⟩ ∈ xv_BIG := xv_in 1015 rfl rfl
set_option maxRecDepth 100000 in
theorem l_Law_54 : Cond.methodLink "FaslDeskLaw" 54 ⟨"FaslDesk", "damage", "(III)I"⟩ ∈ xv_BIG := xv_in 451 rfl rfl
set_option maxRecDepth 100000 in
theorem l_Law_58 : Cond.methodLink "FaslDeskLaw" 58 ⟨"FaslDeskModel", "damage", "(III)I"⟩ ∈ xv_BIG := xv_in 1027 rfl rfl
set_option maxRecDepth 100000 in
theorem l_Law_59 : Cond.methodLink "FaslDeskLaw" 59 ⟨"FaslDesk", "forge", "(III)I"⟩ ∈ xv_BIG := xv_in 480 rfl rfl
set_option maxRecDepth 100000 in
theorem l_Law_62 : Cond.methodLink "FaslDeskLaw" 62 ⟨"FaslDeskModel", "forge", "(III)I"⟩ ∈ xv_BIG := xv_in 1031 rfl rfl
set_option maxRecDepth 100000 in
theorem l_Law_63 : Cond.methodLink "FaslDeskLaw" 63 ⟨"FaslDesk", "drop", "(I)I"⟩ ∈ xv_BIG := xv_in 492 rfl rfl
set_option maxRecDepth 100000 in
theorem l_Law_66 : Cond.methodLink "FaslDeskLaw" 66 ⟨"FaslDeskModel", "drop", "(I)I"⟩ ∈ xv_BIG := xv_in 1038 rfl rfl
set_option maxRecDepth 100000 in
theorem l_Law_67 : Cond.methodLink "FaslDeskLaw" 67 ⟨"FaslDesk", "load", "()I"⟩ ∈ xv_BIG := xv_in 500 rfl rfl
set_option maxRecDepth 100000 in
theorem l_Law_70 : Cond.methodLink "FaslDeskLaw" 70 ⟨"FaslDeskModel", "load", "()I"⟩ ∈ xv_BIG := xv_in 1042 rfl rfl
set_option maxRecDepth 100000 in
theorem l_Law_71 : Cond.methodLink "FaslDeskLaw" 71 ⟨"FaslDeskLaw", "run", "(LFaslDesk;IIII[J)I"⟩ ∈ xv_BIG := xv_in 758 rfl rfl
set_option maxRecDepth 100000 in
theorem l_Law_73 : Cond.methodLink "FaslDeskLaw" 73 ⟨"FaslDeskModel", "run", "(IIII)I"⟩ ∈ xv_BIG := xv_in 1007 rfl rfl
set_option maxRecDepth 100000 in
theorem l_Law_74 : Cond.methodLink "FaslDeskLaw" 74 ⟨"FaslDesk", "entry", "(II)I"⟩ ∈ xv_BIG := xv_in 548 rfl rfl
set_option maxRecDepth 100000 in
theorem l_Law_77 : Cond.methodLink "FaslDeskLaw" 77 ⟨"FaslDeskModel", "entry", "(II)I"⟩ ∈ xv_BIG := xv_in 1054 rfl rfl
set_option maxRecDepth 100000 in
theorem l_Law_78 : Cond.methodLink "FaslDeskLaw" 78 ⟨"FaslDesk", "unit", "(III)I"⟩ ∈ xv_BIG := xv_in 553 rfl rfl
set_option maxRecDepth 100000 in
theorem l_Law_81 : Cond.methodLink "FaslDeskLaw" 81 ⟨"FaslDeskModel", "unit", "(III)I"⟩ ∈ xv_BIG := xv_in 1058 rfl rfl
set_option maxRecDepth 100000 in
theorem l_Law_82 : Cond.methodLink "FaslDeskLaw" 82 ⟨"FaslDesk", "count", "(I)I"⟩ ∈ xv_BIG := xv_in 557 rfl rfl
set_option maxRecDepth 100000 in
theorem l_Law_85 : Cond.methodLink "FaslDeskLaw" 85 ⟨"FaslDeskModel", "count", "(I)I"⟩ ∈ xv_BIG := xv_in 1062 rfl rfl
set_option maxRecDepth 100000 in
theorem l_Model_1 : Cond.methodLink "FaslDeskModel" 1 ⟨"java/lang/Object", "<init>", "()V"⟩ ∈ xv_BIG := xv_in 813 rfl rfl
set_option maxRecDepth 100000 in
theorem l_Model_102 : Cond.methodLink "FaslDeskModel" 102 ⟨"FaslDeskModel", "is", "(III)Z"⟩ ∈ xv_BIG := xv_in 933 rfl rfl
set_option maxRecDepth 100000 in
theorem l_Model_106 : Cond.methodLink "FaslDeskModel" 106 ⟨"FaslDeskModel", "fits", "(II)Z"⟩ ∈ xv_BIG := xv_in 930 rfl rfl
set_option maxRecDepth 100000 in
theorem l_Model_110 : Cond.methodLink "FaslDeskModel" 110 ⟨"FaslDeskModel", "parts", "(I)I"⟩ ∈ xv_BIG := xv_in 948 rfl rfl
set_option maxRecDepth 100000 in
theorem l_Model_114 : Cond.methodLink "FaslDeskModel" 114 ⟨"FaslDeskModel", "relate", "()Z"⟩ ∈ xv_BIG := xv_in 944 rfl rfl
set_option maxRecDepth 100000 in
theorem l_Model_118 : Cond.methodLink "FaslDeskModel" 118 ⟨"FaslDeskModel", "stands", "(III)Z"⟩ ∈ xv_BIG := xv_in 951 rfl rfl
set_option maxRecDepth 100000 in
theorem l_Model_121 : Cond.methodLink "FaslDeskModel" 121 ⟨"FaslDeskModel", "translate", "(I)V"⟩ ∈ xv_BIG := xv_in 955 rfl rfl
set_option maxRecDepth 100000 in
theorem l_Model_128 : Cond.methodLink "FaslDeskModel" 128 ⟨"FaslDeskModel", "put", "(IIII)I"⟩ ∈ xv_BIG := xv_in 959 rfl rfl
set_option maxRecDepth 100000 in
theorem l_Model_132 : Cond.methodLink "FaslDeskModel" 132 ⟨"FaslDeskModel", "behind", "(II)Z"⟩ ∈ xv_BIG := xv_in 963 rfl rfl
set_option maxRecDepth 100000 in
theorem l_Model_135 : Cond.methodLink "FaslDeskModel" 135 ⟨"FaslDeskModel", "measure", "(I)I"⟩ ∈ xv_BIG := xv_in 971 rfl rfl
set_option maxRecDepth 100000 in
theorem l_Model_138 : Cond.methodLink "FaslDeskModel" 138 ⟨"FaslDeskModel", "fix", "(II)V"⟩ ∈ xv_BIG := xv_in 967 rfl rfl
set_option maxRecDepth 100000 in
theorem l_Model_142 : Cond.methodLink "FaslDeskModel" 142 ⟨"FaslDeskModel", "takes", "(I)I"⟩ ∈ xv_BIG := xv_in 975 rfl rfl
set_option maxRecDepth 100000 in
theorem l_Model_145 : Cond.methodLink "FaslDeskModel" 145 ⟨"FaslDeskModel", "puts", "(I)I"⟩ ∈ xv_BIG := xv_in 978 rfl rfl
set_option maxRecDepth 100000 in
theorem l_Model_148 : Cond.methodLink "FaslDeskModel" 148 ⟨"FaslDeskModel", "reach", "(III)Z"⟩ ∈ xv_BIG := xv_in 981 rfl rfl
set_option maxRecDepth 100000 in
theorem l_Model_151 : Cond.methodLink "FaslDeskModel" 151 ⟨"FaslDeskModel", "enter", "(IIIIII)V"⟩ ∈ xv_BIG := xv_in 993 rfl rfl
set_option maxRecDepth 100000 in
theorem l_Model_158 : Cond.methodLink "FaslDeskModel" 158 ⟨"FaslDeskModel", "compute", "(III)I"⟩ ∈ xv_BIG := xv_in 997 rfl rfl
set_option maxRecDepth 100000 in
theorem l_Model_162 : Cond.methodLink "FaslDeskModel" 162 ⟨"FaslDeskModel", "isSo", "(II)Z"⟩ ∈ xv_BIG := xv_in 1000 rfl rfl
set_option maxRecDepth 100000 in
theorem l_Model_165 : Cond.methodLink "FaslDeskModel" 165 ⟨"FaslDeskModel", "simple", "(IIII)I"⟩ ∈ xv_BIG := xv_in 1003 rfl rfl
set_option maxRecDepth 100000 in
theorem l_Model_168 : Cond.methodLink "FaslDeskModel" 168 ⟨"FaslDeskModel", "go", "(IIIII)I"⟩ ∈ xv_BIG := xv_in 989 rfl rfl
set_option maxRecDepth 100000 in
theorem l_Model_175 : Cond.methodLink "FaslDeskModel" 175 ⟨"FaslDeskModel", "copyUnits", "(II)V"⟩ ∈ xv_BIG := xv_in 1019 rfl rfl
set_option maxRecDepth 100000 in
theorem l_Model_178 : Cond.methodLink "FaslDeskModel" 178 ⟨"FaslDeskModel", "seal", "(I)V"⟩ ∈ xv_BIG := xv_in 1023 rfl rfl
set_option maxRecDepth 100000 in
theorem l_Model_187 : Cond.methodLink "FaslDeskModel" 187 ⟨"FaslDeskModel", "isForged", "(I)Z"⟩ ∈ xv_BIG := xv_in 1035 rfl rfl
set_option maxRecDepth 100000 in
theorem l_Model_194 : Cond.methodLink "FaslDeskModel" 194 ⟨"FaslDeskModel", "fault", "(II)I"⟩ ∈ xv_BIG := xv_in 1046 rfl rfl
set_option maxRecDepth 100000 in
theorem l_Model_198 : Cond.methodLink "FaslDeskModel" 198 ⟨"FaslDeskModel", "goes", "(I)Z"⟩ ∈ xv_BIG := xv_in 1050 rfl rfl
set_option maxRecDepth 100000 in
theorem m_Desk_init : xv_mI J_Desk_init 0 := ⟨xv_in 27 rfl rfl, xv_in 26 rfl rfl, rfl, rfl, xv_in 1 rfl rfl, ⟨by decide, by decide, by decide +kernel⟩, by decide⟩
set_option maxRecDepth 100000 in
theorem m_Desk_token : xv_mV J_Desk_token 2 := ⟨xv_in 327 rfl rfl, xv_in 325 rfl rfl, xv_in 326 rfl rfl, xv_in 1 rfl rfl, ⟨by decide, by decide, by decide +kernel⟩, by decide⟩
set_option maxRecDepth 100000 in
theorem m_Desk_define : xv_mV J_Desk_define 2 := ⟨xv_in 341 rfl rfl, xv_in 339 rfl rfl, xv_in 340 rfl rfl, xv_in 1 rfl rfl, ⟨by decide, by decide, by decide +kernel⟩, by decide⟩
set_option maxRecDepth 100000 in
theorem m_Desk_clear : xv_mV J_Desk_clear 0 := ⟨xv_in 371 rfl rfl, xv_in 369 rfl rfl, xv_in 370 rfl rfl, xv_in 1 rfl rfl, ⟨by decide, by decide, by decide +kernel⟩, by decide⟩
set_option maxRecDepth 100000 in
theorem m_Desk_interpret : xv_mV J_Desk_interpret 4 := ⟨xv_in 583 rfl rfl, xv_in 581 rfl rfl, xv_in 582 rfl rfl, xv_in 1 rfl rfl, ⟨by decide, by decide, by decide +kernel⟩, by decide⟩
set_option maxRecDepth 100000 in
theorem m_Desk_compile : xv_mV J_Desk_compile 1 := ⟨xv_in 375 rfl rfl, xv_in 373 rfl rfl, xv_in 374 rfl rfl, xv_in 1 rfl rfl, ⟨by decide, by decide, by decide +kernel⟩, by decide⟩
set_option maxRecDepth 100000 in
theorem m_Desk_damage : xv_mV J_Desk_damage 3 := ⟨xv_in 454 rfl rfl, xv_in 452 rfl rfl, xv_in 453 rfl rfl, xv_in 1 rfl rfl, ⟨by decide, by decide, by decide +kernel⟩, by decide⟩
set_option maxRecDepth 100000 in
theorem m_Desk_forge : xv_mV J_Desk_forge 3 := ⟨xv_in 483 rfl rfl, xv_in 481 rfl rfl, xv_in 482 rfl rfl, xv_in 1 rfl rfl, ⟨by decide, by decide, by decide +kernel⟩, by decide⟩
set_option maxRecDepth 100000 in
theorem m_Desk_drop : xv_mV J_Desk_drop 1 := ⟨xv_in 495 rfl rfl, xv_in 493 rfl rfl, xv_in 494 rfl rfl, xv_in 1 rfl rfl, ⟨by decide, by decide, by decide +kernel⟩, by decide⟩
set_option maxRecDepth 100000 in
theorem m_Desk_load : xv_mV J_Desk_load 0 := ⟨xv_in 503 rfl rfl, xv_in 501 rfl rfl, xv_in 502 rfl rfl, xv_in 1 rfl rfl, ⟨by decide, by decide, by decide +kernel⟩, by decide⟩
set_option maxRecDepth 100000 in
theorem m_Desk_run : xv_mV J_Desk_run 4 := ⟨xv_in 765 rfl rfl, xv_in 763 rfl rfl, xv_in 764 rfl rfl, xv_in 1 rfl rfl, ⟨by decide, by decide, by decide +kernel⟩, by decide⟩
set_option maxRecDepth 100000 in
theorem m_Desk_entry : xv_mV J_Desk_entry 2 := ⟨xv_in 551 rfl rfl, xv_in 549 rfl rfl, xv_in 550 rfl rfl, xv_in 1 rfl rfl, ⟨by decide, by decide, by decide +kernel⟩, by decide⟩
set_option maxRecDepth 100000 in
theorem m_Desk_unit : xv_mV J_Desk_unit 3 := ⟨xv_in 556 rfl rfl, xv_in 554 rfl rfl, xv_in 555 rfl rfl, xv_in 1 rfl rfl, ⟨by decide, by decide, by decide +kernel⟩, by decide⟩
set_option maxRecDepth 100000 in
theorem m_Desk_count : xv_mV J_Desk_count 1 := ⟨xv_in 560 rfl rfl, xv_in 558 rfl rfl, xv_in 559 rfl rfl, xv_in 1 rfl rfl, ⟨by decide, by decide, by decide +kernel⟩, by decide⟩
set_option maxRecDepth 100000 in
theorem m_Desk_damageMagic : xv_mV J_Desk_damageMagic 1 := ⟨xv_in 458 rfl rfl, xv_in 457 rfl rfl, xv_inP 10 rfl rfl, xv_in 1 rfl rfl, ⟨by decide, by decide, by decide +kernel⟩, by decide⟩
set_option maxRecDepth 100000 in
theorem m_Desk_damageStated : xv_mV J_Desk_damageStated 1 := ⟨xv_in 462 rfl rfl, xv_in 461 rfl rfl, xv_inP 11 rfl rfl, xv_in 1 rfl rfl, ⟨by decide, by decide, by decide +kernel⟩, by decide⟩
set_option maxRecDepth 100000 in
theorem m_Desk_damageNumber : xv_mV J_Desk_damageNumber 2 := ⟨xv_in 466 rfl rfl, xv_in 465 rfl rfl, xv_inP 12 rfl rfl, xv_in 1 rfl rfl, ⟨by decide, by decide, by decide +kernel⟩, by decide⟩
set_option maxRecDepth 100000 in
theorem m_Desk_damageOctet : xv_mV J_Desk_damageOctet 1 := ⟨xv_in 474 rfl rfl, xv_in 473 rfl rfl, xv_inP 13 rfl rfl, xv_in 1 rfl rfl, ⟨by decide, by decide, by decide +kernel⟩, by decide⟩
set_option maxRecDepth 100000 in
theorem m_Desk_sealAnew : xv_mV J_Desk_sealAnew 1 := ⟨xv_in 478 rfl rfl, xv_in 477 rfl rfl, xv_inP 14 rfl rfl, xv_in 1 rfl rfl, ⟨by decide, by decide, by decide +kernel⟩, by decide⟩
set_option maxRecDepth 100000 in
theorem m_Desk_hasUnit : xv_mV J_Desk_hasUnit 2 := ⟨xv_in 487 rfl rfl, xv_in 486 rfl rfl, xv_inP 15 rfl rfl, xv_in 1 rfl rfl, ⟨by decide, by decide, by decide +kernel⟩, by decide⟩
set_option maxRecDepth 100000 in
theorem m_Desk_within : xv_mS J_Desk_within 3 := ⟨xv_in 333 rfl rfl, xv_in 332 rfl rfl, xv_in 1 rfl rfl, ⟨by decide, by decide, by decide +kernel⟩, by decide⟩
set_option maxRecDepth 100000 in
theorem m_Model_init : xv_mI J_Model_init 0 := ⟨xv_in 812 rfl rfl, xv_in 811 rfl rfl, rfl, rfl, xv_in 12 rfl rfl, ⟨by decide, by decide, by decide +kernel⟩, by decide⟩
set_option maxRecDepth 100000 in
theorem m_Model_is : xv_mS J_Model_is 3 := ⟨xv_in 935 rfl rfl, xv_in 934 rfl rfl, xv_in 12 rfl rfl, ⟨by decide, by decide, by decide +kernel⟩, by decide⟩
set_option maxRecDepth 100000 in
theorem m_Model_parts : xv_mS J_Model_parts 1 := ⟨xv_in 950 rfl rfl, xv_in 949 rfl rfl, xv_in 12 rfl rfl, ⟨by decide, by decide, by decide +kernel⟩, by decide⟩
set_option maxRecDepth 100000 in
theorem m_Model_fits : xv_mS J_Model_fits 2 := ⟨xv_in 932 rfl rfl, xv_in 931 rfl rfl, xv_in 12 rfl rfl, ⟨by decide, by decide, by decide +kernel⟩, by decide⟩
set_option maxRecDepth 100000 in
theorem m_Model_token : xv_mV J_Model_token 2 := ⟨xv_in 929 rfl rfl, xv_in 927 rfl rfl, xv_in 928 rfl rfl, xv_in 12 rfl rfl, ⟨by decide, by decide, by decide +kernel⟩, by decide⟩
set_option maxRecDepth 100000 in
theorem m_Model_clear : xv_mV J_Model_clear 0 := ⟨xv_in 939 rfl rfl, xv_in 937 rfl rfl, xv_in 938 rfl rfl, xv_in 12 rfl rfl, ⟨by decide, by decide, by decide +kernel⟩, by decide⟩
set_option maxRecDepth 100000 in
theorem m_Model_relate : xv_mV J_Model_relate 0 := ⟨xv_in 947 rfl rfl, xv_in 946 rfl rfl, xv_inP 32 rfl rfl, xv_in 12 rfl rfl, ⟨by decide, by decide, by decide +kernel⟩, by decide⟩
set_option maxRecDepth 100000 in
theorem m_Model_stands : xv_mV J_Model_stands 3 := ⟨xv_in 954 rfl rfl, xv_in 953 rfl rfl, xv_inP 33 rfl rfl, xv_in 12 rfl rfl, ⟨by decide, by decide, by decide +kernel⟩, by decide⟩
set_option maxRecDepth 100000 in
theorem m_Model_define : xv_mV J_Model_define 2 := ⟨xv_in 943 rfl rfl, xv_in 941 rfl rfl, xv_in 942 rfl rfl, xv_in 12 rfl rfl, ⟨by decide, by decide, by decide +kernel⟩, by decide⟩
set_option maxRecDepth 100000 in
theorem m_Model_put : xv_mV J_Model_put 4 := ⟨xv_in 962 rfl rfl, xv_in 961 rfl rfl, xv_inP 35 rfl rfl, xv_in 12 rfl rfl, ⟨by decide, by decide, by decide +kernel⟩, by decide⟩
set_option maxRecDepth 100000 in
theorem m_Model_fix : xv_mV J_Model_fix 2 := ⟨xv_in 970 rfl rfl, xv_in 969 rfl rfl, xv_inP 37 rfl rfl, xv_in 12 rfl rfl, ⟨by decide, by decide, by decide +kernel⟩, by decide⟩
set_option maxRecDepth 100000 in
theorem m_Model_translate : xv_mV J_Model_translate 1 := ⟨xv_in 958 rfl rfl, xv_in 957 rfl rfl, xv_inP 34 rfl rfl, xv_in 12 rfl rfl, ⟨by decide, by decide, by decide +kernel⟩, by decide⟩
set_option maxRecDepth 100000 in
theorem m_Model_behind : xv_mV J_Model_behind 2 := ⟨xv_in 966 rfl rfl, xv_in 965 rfl rfl, xv_inP 36 rfl rfl, xv_in 12 rfl rfl, ⟨by decide, by decide, by decide +kernel⟩, by decide⟩
set_option maxRecDepth 100000 in
theorem m_Model_takes : xv_mS J_Model_takes 1 := ⟨xv_in 977 rfl rfl, xv_in 976 rfl rfl, xv_in 12 rfl rfl, ⟨by decide, by decide, by decide +kernel⟩, by decide⟩
set_option maxRecDepth 100000 in
theorem m_Model_puts : xv_mS J_Model_puts 1 := ⟨xv_in 980 rfl rfl, xv_in 979 rfl rfl, xv_in 12 rfl rfl, ⟨by decide, by decide, by decide +kernel⟩, by decide⟩
set_option maxRecDepth 100000 in
theorem m_Model_measure : xv_mV J_Model_measure 1 := ⟨xv_in 974 rfl rfl, xv_in 973 rfl rfl, xv_inP 38 rfl rfl, xv_in 12 rfl rfl, ⟨by decide, by decide, by decide +kernel⟩, by decide⟩
set_option maxRecDepth 100000 in
theorem m_Model_reach : xv_mV J_Model_reach 3 := ⟨xv_in 984 rfl rfl, xv_in 983 rfl rfl, xv_inP 39 rfl rfl, xv_in 12 rfl rfl, ⟨by decide, by decide, by decide +kernel⟩, by decide⟩
set_option maxRecDepth 100000 in
theorem m_Model_isSo : xv_mS J_Model_isSo 2 := ⟨xv_in 1002 rfl rfl, xv_in 1001 rfl rfl, xv_in 12 rfl rfl, ⟨by decide, by decide, by decide +kernel⟩, by decide⟩
set_option maxRecDepth 100000 in
theorem m_Model_enter : xv_mV J_Model_enter 6 := ⟨xv_in 996 rfl rfl, xv_in 995 rfl rfl, xv_inP 41 rfl rfl, xv_in 12 rfl rfl, ⟨by decide, by decide, by decide +kernel⟩, by decide⟩
set_option maxRecDepth 100000 in
theorem m_Model_go : xv_mV J_Model_go 5 := ⟨xv_in 992 rfl rfl, xv_in 991 rfl rfl, xv_inP 40 rfl rfl, xv_in 12 rfl rfl, ⟨by decide, by decide, by decide +kernel⟩, by decide⟩
set_option maxRecDepth 100000 in
theorem m_Model_compute : xv_mS J_Model_compute 3 := ⟨xv_in 999 rfl rfl, xv_in 998 rfl rfl, xv_in 12 rfl rfl, ⟨by decide, by decide, by decide +kernel⟩, by decide⟩
set_option maxRecDepth 100000 in
theorem m_Model_simple : xv_mV J_Model_simple 4 := ⟨xv_in 1006 rfl rfl, xv_in 1005 rfl rfl, xv_inP 42 rfl rfl, xv_in 12 rfl rfl, ⟨by decide, by decide, by decide +kernel⟩, by decide⟩
set_option maxRecDepth 100000 in
theorem m_Model_interpret : xv_mV J_Model_interpret 4 := ⟨xv_in 988 rfl rfl, xv_in 986 rfl rfl, xv_in 987 rfl rfl, xv_in 12 rfl rfl, ⟨by decide, by decide, by decide +kernel⟩, by decide⟩
set_option maxRecDepth 100000 in
theorem m_Model_run : xv_mV J_Model_run 4 := ⟨xv_in 1010 rfl rfl, xv_in 1008 rfl rfl, xv_in 1009 rfl rfl, xv_in 12 rfl rfl, ⟨by decide, by decide, by decide +kernel⟩, by decide⟩
set_option maxRecDepth 100000 in
theorem m_Model_thrown : xv_mV J_Model_thrown 0 := ⟨xv_in 1014 rfl rfl, xv_in 1012 rfl rfl, xv_in 1013 rfl rfl, xv_in 12 rfl rfl, ⟨by decide, by decide, by decide +kernel⟩, by decide⟩
set_option maxRecDepth 100000 in
theorem m_Model_copyUnits : xv_mV J_Model_copyUnits 2 := ⟨xv_in 1022 rfl rfl, xv_in 1021 rfl rfl, xv_inP 43 rfl rfl, xv_in 12 rfl rfl, ⟨by decide, by decide, by decide +kernel⟩, by decide⟩
set_option maxRecDepth 100000 in
theorem m_Model_seal : xv_mV J_Model_seal 1 := ⟨xv_in 1026 rfl rfl, xv_in 1025 rfl rfl, xv_inP 44 rfl rfl, xv_in 12 rfl rfl, ⟨by decide, by decide, by decide +kernel⟩, by decide⟩
set_option maxRecDepth 100000 in
theorem m_Model_goes : xv_mV J_Model_goes 1 := ⟨xv_in 1053 rfl rfl, xv_in 1052 rfl rfl, xv_inP 46 rfl rfl, xv_in 12 rfl rfl, ⟨by decide, by decide, by decide +kernel⟩, by decide⟩
set_option maxRecDepth 100000 in
theorem m_Model_compile : xv_mV J_Model_compile 1 := ⟨xv_in 1018 rfl rfl, xv_in 1016 rfl rfl, xv_in 1017 rfl rfl, xv_in 12 rfl rfl, ⟨by decide, by decide, by decide +kernel⟩, by decide⟩
set_option maxRecDepth 100000 in
theorem m_Model_damage : xv_mV J_Model_damage 3 := ⟨xv_in 1030 rfl rfl, xv_in 1028 rfl rfl, xv_in 1029 rfl rfl, xv_in 12 rfl rfl, ⟨by decide, by decide, by decide +kernel⟩, by decide⟩
set_option maxRecDepth 100000 in
theorem m_Model_isForged : xv_mS J_Model_isForged 1 := ⟨xv_in 1037 rfl rfl, xv_in 1036 rfl rfl, xv_in 12 rfl rfl, ⟨by decide, by decide, by decide +kernel⟩, by decide⟩
set_option maxRecDepth 100000 in
theorem m_Model_forge : xv_mV J_Model_forge 3 := ⟨xv_in 1034 rfl rfl, xv_in 1032 rfl rfl, xv_in 1033 rfl rfl, xv_in 12 rfl rfl, ⟨by decide, by decide, by decide +kernel⟩, by decide⟩
set_option maxRecDepth 100000 in
theorem m_Model_drop : xv_mV J_Model_drop 1 := ⟨xv_in 1041 rfl rfl, xv_in 1039 rfl rfl, xv_in 1040 rfl rfl, xv_in 12 rfl rfl, ⟨by decide, by decide, by decide +kernel⟩, by decide⟩
set_option maxRecDepth 100000 in
theorem m_Model_fault : xv_mV J_Model_fault 2 := ⟨xv_in 1049 rfl rfl, xv_in 1048 rfl rfl, xv_inP 45 rfl rfl, xv_in 12 rfl rfl, ⟨by decide, by decide, by decide +kernel⟩, by decide⟩
set_option maxRecDepth 100000 in
theorem m_Model_load : xv_mV J_Model_load 0 := ⟨xv_in 1045 rfl rfl, xv_in 1043 rfl rfl, xv_in 1044 rfl rfl, xv_in 12 rfl rfl, ⟨by decide, by decide, by decide +kernel⟩, by decide⟩
set_option maxRecDepth 100000 in
theorem m_Model_entry : xv_mV J_Model_entry 2 := ⟨xv_in 1057 rfl rfl, xv_in 1055 rfl rfl, xv_in 1056 rfl rfl, xv_in 12 rfl rfl, ⟨by decide, by decide, by decide +kernel⟩, by decide⟩
set_option maxRecDepth 100000 in
theorem m_Model_unit : xv_mV J_Model_unit 3 := ⟨xv_in 1061 rfl rfl, xv_in 1059 rfl rfl, xv_in 1060 rfl rfl, xv_in 12 rfl rfl, ⟨by decide, by decide, by decide +kernel⟩, by decide⟩
set_option maxRecDepth 100000 in
theorem m_Model_count : xv_mV J_Model_count 1 := ⟨xv_in 1065 rfl rfl, xv_in 1063 rfl rfl, xv_in 1064 rfl rfl, xv_in 12 rfl rfl, ⟨by decide, by decide, by decide +kernel⟩, by decide⟩
set_option maxRecDepth 100000 in
theorem m_Arch_init : xv_mI J_Arch_init 0 := ⟨xv_in 142 rfl rfl, xv_in 141 rfl rfl, rfl, rfl, xv_in 7 rfl rfl, ⟨by decide, by decide, by decide +kernel⟩, by decide⟩
set_option maxRecDepth 100000 in
theorem m_Arch_has : xv_mV J_Arch_has 1 := ⟨xv_in 470 rfl rfl, xv_in 468 rfl rfl, xv_in 469 rfl rfl, xv_in 7 rfl rfl, ⟨by decide, by decide, by decide +kernel⟩, by decide⟩
set_option maxRecDepth 100000 in
theorem m_Arch_placeFor : xv_mV J_Arch_placeFor 1 := ⟨xv_in 384 rfl rfl, xv_in 382 rfl rfl, xv_in 383 rfl rfl, xv_in 7 rfl rfl, ⟨by decide, by decide, by decide +kernel⟩, by decide⟩
set_option maxRecDepth 100000 in
theorem m_Arch_keepWith : xv_mV J_Arch_keepWith 1 := ⟨xv_in 449 rfl rfl, xv_in 447 rfl rfl, xv_in 448 rfl rfl, xv_in 7 rfl rfl, ⟨by decide, by decide, by decide +kernel⟩, by decide⟩
set_option maxRecDepth 100000 in
theorem m_Arch_remove : xv_mV J_Arch_remove 1 := ⟨xv_in 499 rfl rfl, xv_in 497 rfl rfl, xv_in 498 rfl rfl, xv_in 7 rfl rfl, ⟨by decide, by decide, by decide +kernel⟩, by decide⟩
set_option maxRecDepth 100000 in
theorem m_Arch_findFault : xv_mV J_Arch_findFault 0 := ⟨xv_in 507 rfl rfl, xv_in 505 rfl rfl, xv_in 506 rfl rfl, xv_in 7 rfl rfl, ⟨by decide, by decide, by decide +kernel⟩, by decide⟩
set_option maxRecDepth 100000 in
theorem m_Arch_findOddEntry : xv_mV J_Arch_findOddEntry 0 := ⟨xv_in 511 rfl rfl, xv_in 510 rfl rfl, xv_inP 16 rfl rfl, xv_in 7 rfl rfl, ⟨by decide, by decide, by decide +kernel⟩, by decide⟩
set_option maxRecDepth 100000 in
theorem m_Arch_findOddClass : xv_mV J_Arch_findOddClass 0 := ⟨xv_in 520 rfl rfl, xv_in 519 rfl rfl, xv_inP 17 rfl rfl, xv_in 7 rfl rfl, ⟨by decide, by decide, by decide +kernel⟩, by decide⟩
set_option maxRecDepth 100000 in
theorem m_Arch_findOddCode : xv_mV J_Arch_findOddCode 0 := ⟨xv_in 524 rfl rfl, xv_in 523 rfl rfl, xv_inP 18 rfl rfl, xv_in 7 rfl rfl, ⟨by decide, by decide, by decide +kernel⟩, by decide⟩
set_option maxRecDepth 100000 in
theorem m_Code_init : xv_mI J_Code_init 0 := ⟨xv_in 174 rfl rfl, xv_in 173 rfl rfl, rfl, rfl, xv_in 10 rfl rfl, ⟨by decide, by decide, by decide +kernel⟩, by decide⟩
set_option maxRecDepth 100000 in
theorem m_Code_forgeable : xv_mS J_Code_forgeable 1 := ⟨xv_in 490 rfl rfl, xv_in 489 rfl rfl, xv_in 10 rfl rfl, ⟨by decide, by decide, by decide +kernel⟩, by decide⟩
set_option maxRecDepth 100000 in
theorem m_Code_append : xv_mV J_Code_append 2 := ⟨xv_in 400 rfl rfl, xv_in 398 rfl rfl, xv_in 399 rfl rfl, xv_in 10 rfl rfl, ⟨by decide, by decide, by decide +kernel⟩, by decide⟩
set_option maxRecDepth 100000 in
theorem m_Code_becomes : xv_mV J_Code_becomes 1 := ⟨xv_in 546 rfl rfl, xv_in 544 rfl rfl, xv_in 545 rfl rfl, xv_in 10 rfl rfl, ⟨by decide, by decide, by decide +kernel⟩, by decide⟩
set_option maxRecDepth 100000 in
theorem m_Check_init : xv_mI J_Check_init 0 := ⟨xv_in 150 rfl rfl, xv_in 149 rfl rfl, rfl, rfl, xv_in 8 rfl rfl, ⟨by decide, by decide, by decide +kernel⟩, by decide⟩
set_option maxRecDepth 100000 in
theorem m_Check_goes : xv_mV J_Check_goes 2 := ⟨xv_in 528 rfl rfl, xv_in 526 rfl rfl, xv_in 527 rfl rfl, xv_in 8 rfl rfl, ⟨by decide, by decide, by decide +kernel⟩, by decide⟩
set_option maxRecDepth 100000 in
theorem m_Check_passes : xv_mV J_Check_passes 2 := ⟨xv_in 536 rfl rfl, xv_in 535 rfl rfl, xv_inP 20 rfl rfl, xv_in 8 rfl rfl, ⟨by decide, by decide, by decide +kernel⟩, by decide⟩
set_option maxRecDepth 100000 in
theorem m_Check_reach : xv_mV J_Check_reach 2 := ⟨xv_in 532 rfl rfl, xv_in 531 rfl rfl, xv_inP 19 rfl rfl, xv_in 8 rfl rfl, ⟨by decide, by decide, by decide +kernel⟩, by decide⟩
set_option maxRecDepth 100000 in
theorem m_Comp_init : xv_mI J_Comp_init 0 := ⟨xv_in 123 rfl rfl, xv_in 122 rfl rfl, rfl, rfl, xv_in 6 rfl rfl, ⟨by decide, by decide, by decide +kernel⟩, by decide⟩
set_option maxRecDepth 100000 in
theorem m_Comp_translate : xv_mV J_Comp_translate 2 := ⟨xv_in 388 rfl rfl, xv_in 386 rfl rfl, xv_in 387 rfl rfl, xv_in 6 rfl rfl, ⟨by decide, by decide, by decide +kernel⟩, by decide⟩
set_option maxRecDepth 100000 in
theorem m_Comp_emit : xv_mV J_Comp_emit 2 := ⟨xv_in 396 rfl rfl, xv_in 395 rfl rfl, xv_inP 3 rfl rfl, xv_in 6 rfl rfl, ⟨by decide, by decide, by decide +kernel⟩, by decide⟩
set_option maxRecDepth 100000 in
theorem m_Comp_emitOfTimes : xv_mV J_Comp_emitOfTimes 1 := ⟨xv_in 435 rfl rfl, xv_in 434 rfl rfl, xv_inP 9 rfl rfl, xv_in 6 rfl rfl, ⟨by decide, by decide, by decide +kernel⟩, by decide⟩
set_option maxRecDepth 100000 in
theorem m_Comp_emitForm : xv_mV J_Comp_emitForm 1 := ⟨xv_in 411 rfl rfl, xv_in 410 rfl rfl, xv_inP 4 rfl rfl, xv_in 6 rfl rfl, ⟨by decide, by decide, by decide +kernel⟩, by decide⟩
set_option maxRecDepth 100000 in
theorem m_Comp_emitIf : xv_mV J_Comp_emitIf 1 := ⟨xv_in 415 rfl rfl, xv_in 414 rfl rfl, xv_inP 5 rfl rfl, xv_in 6 rfl rfl, ⟨by decide, by decide, by decide +kernel⟩, by decide⟩
set_option maxRecDepth 100000 in
theorem m_Comp_emitTimes : xv_mV J_Comp_emitTimes 1 := ⟨xv_in 431 rfl rfl, xv_in 430 rfl rfl, xv_inP 8 rfl rfl, xv_in 6 rfl rfl, ⟨by decide, by decide, by decide +kernel⟩, by decide⟩
set_option maxRecDepth 100000 in
theorem m_Comp_setFirst : xv_mV J_Comp_setFirst 2 := ⟨xv_in 427 rfl rfl, xv_in 426 rfl rfl, xv_inP 7 rfl rfl, xv_in 6 rfl rfl, ⟨by decide, by decide, by decide +kernel⟩, by decide⟩
set_option maxRecDepth 100000 in
theorem m_Comp_setSecond : xv_mV J_Comp_setSecond 2 := ⟨xv_in 423 rfl rfl, xv_in 422 rfl rfl, xv_inP 6 rfl rfl, xv_in 6 rfl rfl, ⟨by decide, by decide, by decide +kernel⟩, by decide⟩
set_option maxRecDepth 100000 in
theorem m_Entry_init : xv_mI J_Entry_init 0 := ⟨xv_in 168 rfl rfl, xv_in 167 rfl rfl, rfl, rfl, xv_in 9 rfl rfl, ⟨by decide, by decide, by decide +kernel⟩, by decide⟩
set_option maxRecDepth 100000 in
theorem m_Entry_startWith : xv_mV J_Entry_startWith 1 := ⟨xv_in 392 rfl rfl, xv_in 390 rfl rfl, xv_in 391 rfl rfl, xv_in 9 rfl rfl, ⟨by decide, by decide, by decide +kernel⟩, by decide⟩
set_option maxRecDepth 100000 in
theorem m_Entry_finishFor : xv_mV J_Entry_finishFor 1 := ⟨xv_in 440 rfl rfl, xv_in 438 rfl rfl, xv_in 439 rfl rfl, xv_in 9 rfl rfl, ⟨by decide, by decide, by decide +kernel⟩, by decide⟩
set_option maxRecDepth 100000 in
theorem m_Entry_makeSeal : xv_mV J_Entry_makeSeal 0 := ⟨xv_in 444 rfl rfl, xv_in 442 rfl rfl, xv_in 443 rfl rfl, xv_in 9 rfl rfl, ⟨by decide, by decide, by decide +kernel⟩, by decide⟩
set_option maxRecDepth 100000 in
theorem m_Entry_sealGoes : xv_mV J_Entry_sealGoes 0 := ⟨xv_in 515 rfl rfl, xv_in 513 rfl rfl, xv_in 514 rfl rfl, xv_in 9 rfl rfl, ⟨by decide, by decide, by decide +kernel⟩, by decide⟩
set_option maxRecDepth 100000 in
theorem m_Form_init : xv_mI J_Form_init 0 := ⟨xv_in 35 rfl rfl, xv_in 34 rfl rfl, rfl, rfl, xv_in 2 rfl rfl, ⟨by decide, by decide, by decide +kernel⟩, by decide⟩
set_option maxRecDepth 100000 in
theorem m_Form_allows : xv_mS J_Form_allows 2 := ⟨xv_in 330 rfl rfl, xv_in 329 rfl rfl, xv_in 2 rfl rfl, ⟨by decide, by decide, by decide +kernel⟩, by decide⟩
set_option maxRecDepth 100000 in
theorem m_Form_append : xv_mV J_Form_append 2 := ⟨xv_in 337 rfl rfl, xv_in 335 rfl rfl, xv_in 336 rfl rfl, xv_in 2 rfl rfl, ⟨by decide, by decide, by decide +kernel⟩, by decide⟩
set_option maxRecDepth 100000 in
theorem m_Form_becomes : xv_mV J_Form_becomes 2 := ⟨xv_in 364 rfl rfl, xv_in 362 rfl rfl, xv_in 363 rfl rfl, xv_in 2 rfl rfl, ⟨by decide, by decide, by decide +kernel⟩, by decide⟩
set_option maxRecDepth 100000 in
theorem m_Form_start : xv_mV J_Form_start 2 := ⟨xv_in 419 rfl rfl, xv_in 417 rfl rfl, xv_in 418 rfl rfl, xv_in 2 rfl rfl, ⟨by decide, by decide, by decide +kernel⟩, by decide⟩
set_option maxRecDepth 100000 in
theorem m_Form_isOneFormOf : xv_mV J_Form_isOneFormOf 2 := ⟨xv_in 346 rfl rfl, xv_in 344 rfl rfl, xv_in 345 rfl rfl, xv_in 2 rfl rfl, ⟨by decide, by decide, by decide +kernel⟩, by decide⟩
set_option maxRecDepth 100000 in
theorem m_Form_callsGo : xv_mV J_Form_callsGo 1 := ⟨xv_in 350 rfl rfl, xv_in 349 rfl rfl, xv_inP 0 rfl rfl, xv_in 2 rfl rfl, ⟨by decide, by decide, by decide +kernel⟩, by decide⟩
set_option maxRecDepth 100000 in
theorem m_Form_endOf : xv_mV J_Form_endOf 4 := ⟨xv_in 354 rfl rfl, xv_in 353 rfl rfl, xv_inP 1 rfl rfl, xv_in 2 rfl rfl, ⟨by decide, by decide, by decide +kernel⟩, by decide⟩
set_option maxRecDepth 100000 in
theorem m_Form_mayStand : xv_mV J_Form_mayStand 4 := ⟨xv_in 358 rfl rfl, xv_in 357 rfl rfl, xv_inP 2 rfl rfl, xv_in 2 rfl rfl, ⟨by decide, by decide, by decide +kernel⟩, by decide⟩
set_option maxRecDepth 100000 in
theorem m_Frame_init : xv_mI J_Frame_init 0 := ⟨xv_in 79 rfl rfl, xv_in 78 rfl rfl, rfl, rfl, xv_in 4 rfl rfl, ⟨by decide, by decide, by decide +kernel⟩, by decide⟩
set_option maxRecDepth 100000 in
theorem m_Frame_begin : xv_mV J_Frame_begin 4 := ⟨xv_in 659 rfl rfl, xv_in 657 rfl rfl, xv_in 658 rfl rfl, xv_in 4 rfl rfl, ⟨by decide, by decide, by decide +kernel⟩, by decide⟩
set_option maxRecDepth 100000 in
theorem m_Frame_push : xv_mV J_Frame_push 1 := ⟨xv_in 721 rfl rfl, xv_in 719 rfl rfl, xv_in 720 rfl rfl, xv_in 4 rfl rfl, ⟨by decide, by decide, by decide +kernel⟩, by decide⟩
set_option maxRecDepth 100000 in
theorem m_Frame_pop : xv_mV J_Frame_pop 0 := ⟨xv_in 696 rfl rfl, xv_in 694 rfl rfl, xv_in 695 rfl rfl, xv_in 4 rfl rfl, ⟨by decide, by decide, by decide +kernel⟩, by decide⟩
set_option maxRecDepth 100000 in
theorem m_Frame_top : xv_mV J_Frame_top 0 := ⟨xv_in 730 rfl rfl, xv_in 728 rfl rfl, xv_in 729 rfl rfl, xv_in 4 rfl rfl, ⟨by decide, by decide, by decide +kernel⟩, by decide⟩
set_option maxRecDepth 100000 in
theorem m_Image_init : xv_mI J_Image_init 0 := ⟨xv_in 285 rfl rfl, xv_in 284 rfl rfl, rfl, rfl, xv_in 11 rfl rfl, ⟨by decide, by decide, by decide +kernel⟩, by decide⟩
set_option maxRecDepth 100000 in
theorem m_Image_has : xv_mV J_Image_has 1 := ⟨xv_in 573 rfl rfl, xv_in 571 rfl rfl, xv_in 572 rfl rfl, xv_in 11 rfl rfl, ⟨by decide, by decide, by decide +kernel⟩, by decide⟩
set_option maxRecDepth 100000 in
theorem m_Image_size : xv_mV J_Image_size 0 := ⟨xv_in 569 rfl rfl, xv_in 567 rfl rfl, xv_in 568 rfl rfl, xv_in 11 rfl rfl, ⟨by decide, by decide, by decide +kernel⟩, by decide⟩
set_option maxRecDepth 100000 in
theorem m_Image_remake : xv_mV J_Image_remake 1 := ⟨xv_in 542 rfl rfl, xv_in 540 rfl rfl, xv_in 541 rfl rfl, xv_in 11 rfl rfl, ⟨by decide, by decide, by decide +kernel⟩, by decide⟩
set_option maxRecDepth 100000 in
theorem m_Image_answer : xv_mV J_Image_answer 4 := ⟨xv_in 773 rfl rfl, xv_in 772 rfl rfl, xv_inP 29 rfl rfl, xv_in 11 rfl rfl, ⟨by decide, by decide, by decide +kernel⟩, by decide⟩
set_option maxRecDepth 100000 in
theorem m_Image_perform : xv_mV J_Image_perform 2 := ⟨xv_in 779 rfl rfl, xv_in 778 rfl rfl, xv_inP 30 rfl rfl, xv_in 11 rfl rfl, ⟨by decide, by decide, by decide +kernel⟩, by decide⟩
set_option maxRecDepth 100000 in
theorem m_Image_rework : xv_mS J_Image_rework 2 := ⟨xv_in 806 rfl rfl, xv_in 805 rfl rfl, xv_in 11 rfl rfl, ⟨by decide, by decide, by decide +kernel⟩, by decide⟩
set_option maxRecDepth 100000 in
theorem m_Image_answerOfLower : xv_mV J_Image_answerOfLower 2 := ⟨xv_in 786 rfl rfl, xv_in 785 rfl rfl, xv_inP 31 rfl rfl, xv_in 11 rfl rfl, ⟨by decide, by decide, by decide +kernel⟩, by decide⟩
set_option maxRecDepth 100000 in
theorem m_Interp_init : xv_mI J_Interp_init 0 := ⟨xv_in 67 rfl rfl, xv_in 66 rfl rfl, rfl, rfl, xv_in 3 rfl rfl, ⟨by decide, by decide, by decide +kernel⟩, by decide⟩
set_option maxRecDepth 100000 in
theorem m_Interp_has : xv_mV J_Interp_has 1 := ⟨xv_in 379 rfl rfl, xv_in 377 rfl rfl, xv_in 378 rfl rfl, xv_in 3 rfl rfl, ⟨by decide, by decide, by decide +kernel⟩, by decide⟩
set_option maxRecDepth 100000 in
theorem m_Interp_size : xv_mV J_Interp_size 0 := ⟨xv_in 564 rfl rfl, xv_in 562 rfl rfl, xv_in 563 rfl rfl, xv_in 3 rfl rfl, ⟨by decide, by decide, by decide +kernel⟩, by decide⟩
set_option maxRecDepth 100000 in
theorem m_Interp_answer : xv_mV J_Interp_answer 4 := ⟨xv_in 587 rfl rfl, xv_in 586 rfl rfl, xv_inP 21 rfl rfl, xv_in 3 rfl rfl, ⟨by decide, by decide, by decide +kernel⟩, by decide⟩
set_option maxRecDepth 100000 in
theorem m_Interp_advance : xv_mV J_Interp_advance 1 := ⟨xv_in 679 rfl rfl, xv_in 678 rfl rfl, xv_inP 24 rfl rfl, xv_in 3 rfl rfl, ⟨by decide, by decide, by decide +kernel⟩, by decide⟩
set_option maxRecDepth 100000 in
theorem m_Interp_choose : xv_mV J_Interp_choose 2 := ⟨xv_in 692 rfl rfl, xv_in 691 rfl rfl, xv_inP 25 rfl rfl, xv_in 3 rfl rfl, ⟨by decide, by decide, by decide +kernel⟩, by decide⟩
set_option maxRecDepth 100000 in
theorem m_Interp_goRound : xv_mV J_Interp_goRound 3 := ⟨xv_in 712 rfl rfl, xv_in 711 rfl rfl, xv_inP 26 rfl rfl, xv_in 3 rfl rfl, ⟨by decide, by decide, by decide +kernel⟩, by decide⟩
set_option maxRecDepth 100000 in
theorem m_Interp_finish : xv_mV J_Interp_finish 3 := ⟨xv_in 726 rfl rfl, xv_in 725 rfl rfl, xv_inP 27 rfl rfl, xv_in 3 rfl rfl, ⟨by decide, by decide, by decide +kernel⟩, by decide⟩
set_option maxRecDepth 100000 in
theorem m_Interp_answerOfLower : xv_mV J_Interp_answerOfLower 2 := ⟨xv_in 734 rfl rfl, xv_in 733 rfl rfl, xv_inP 28 rfl rfl, xv_in 3 rfl rfl, ⟨by decide, by decide, by decide +kernel⟩, by decide⟩
set_option maxRecDepth 100000 in
theorem m_Ints_reckon : xv_mS J_Ints_reckon 3 := ⟨xv_in 738 rfl rfl, xv_in 737 rfl rfl, xv_in 19 rfl rfl, ⟨by decide, by decide, by decide +kernel⟩, by decide⟩
set_option maxRecDepth 100000 in
theorem m_Ints_isAsSaid : xv_mS J_Ints_isAsSaid 2 := ⟨xv_in 699 rfl rfl, xv_in 698 rfl rfl, xv_in 19 rfl rfl, ⟨by decide, by decide, by decide +kernel⟩, by decide⟩
set_option maxRecDepth 100000 in
theorem m_Ints_divisor : xv_mS J_Ints_divisor 1 := ⟨xv_in 741 rfl rfl, xv_in 740 rfl rfl, xv_in 19 rfl rfl, ⟨by decide, by decide, by decide +kernel⟩, by decide⟩
set_option maxRecDepth 100000 in
theorem m_Opens_init : xv_mI J_Opens_init 0 := ⟨xv_in 96 rfl rfl, xv_in 95 rfl rfl, rfl, rfl, xv_in 5 rfl rfl, ⟨by decide, by decide, by decide +kernel⟩, by decide⟩
set_option maxRecDepth 100000 in
theorem m_Opens_begin : xv_mV J_Opens_begin 0 := ⟨xv_in 666 rfl rfl, xv_in 664 rfl rfl, xv_in 665 rfl rfl, xv_in 5 rfl rfl, ⟨by decide, by decide, by decide +kernel⟩, by decide⟩
set_option maxRecDepth 100000 in
theorem m_Opens_isEmpty : xv_mV J_Opens_isEmpty 0 := ⟨xv_in 675 rfl rfl, xv_in 673 rfl rfl, xv_in 674 rfl rfl, xv_in 5 rfl rfl, ⟨by decide, by decide, by decide +kernel⟩, by decide⟩
set_option maxRecDepth 100000 in
theorem m_Opens_place : xv_mV J_Opens_place 0 := ⟨xv_in 683 rfl rfl, xv_in 681 rfl rfl, xv_in 682 rfl rfl, xv_in 5 rfl rfl, ⟨by decide, by decide, by decide +kernel⟩, by decide⟩
set_option maxRecDepth 100000 in
theorem m_Opens_partsDone : xv_mV J_Opens_partsDone 0 := ⟨xv_in 688 rfl rfl, xv_in 686 rfl rfl, xv_in 687 rfl rfl, xv_in 5 rfl rfl, ⟨by decide, by decide, by decide +kernel⟩, by decide⟩
set_option maxRecDepth 100000 in
theorem m_Opens_enterPart : xv_mV J_Opens_enterPart 1 := ⟨xv_in 716 rfl rfl, xv_in 714 rfl rfl, xv_in 715 rfl rfl, xv_in 5 rfl rfl, ⟨by decide, by decide, by decide +kernel⟩, by decide⟩
set_option maxRecDepth 100000 in
theorem m_Opens_leave : xv_mV J_Opens_leave 0 := ⟨xv_in 708 rfl rfl, xv_in 706 rfl rfl, xv_in 707 rfl rfl, xv_in 5 rfl rfl, ⟨by decide, by decide, by decide +kernel⟩, by decide⟩
set_option maxRecDepth 100000 in
theorem m_Opens_goOnAs : xv_mV J_Opens_goOnAs 1 := ⟨xv_in 704 rfl rfl, xv_in 702 rfl rfl, xv_in 703 rfl rfl, xv_in 5 rfl rfl, ⟨by decide, by decide, by decide +kernel⟩, by decide⟩
set_option maxRecDepth 100000 in
theorem m_Opens_enter : xv_mV J_Opens_enter 1 := ⟨xv_in 670 rfl rfl, xv_in 669 rfl rfl, xv_inP 23 rfl rfl, xv_in 5 rfl rfl, ⟨by decide, by decide, by decide +kernel⟩, by decide⟩
set_option maxRecDepth 100000 in
theorem m_Arrays_fill : xv_mS J_Arrays_fill 2 := ⟨xv_in 662 rfl rfl, xv_in 661 rfl rfl, xv_in 18 rfl rfl, ⟨by decide, by decide, by decide +kernel⟩, by decide⟩
