/-! words of the tables about the law's class; what its bytes are read as (written by program) -/
theorem rl_w0 : Jvm.Cond.initialized "FarthestHeirLaw" ∈ rx_tbl := rx_mem1 0 (by decide +kernel) (by decide +kernel)
theorem rl_w28 : Jvm.Cond.classLink "FarthestHeirLaw" (8 : Nat) "FarthestHeir" ∈ rx_tbl := rx_mem1 28 (by decide +kernel) (by decide +kernel)
theorem rl_w29 : Jvm.Cond.instantiable "FarthestHeir" (18 : Nat) ∈ rx_tbl := rx_mem1 29 (by decide +kernel) (by decide +kernel)
theorem rl_w30 : Jvm.Cond.methodLink "FarthestHeirLaw" (119 : Nat) ({ cls := "FarthestHeir", name := "<init>", desc := "()V" } : Jvm.MethodName) ∈ rx_tbl := rx_mem1 30 (by decide +kernel) (by decide +kernel)
theorem rl_w31 : Jvm.Cond.instanceMethod ({ cls := "FarthestHeir", name := "<init>", desc := "()V" } : Jvm.MethodName) ∈ rx_tbl := rx_mem1 31 (by decide +kernel) (by decide +kernel)
theorem rl_w361 : Jvm.Cond.methodLink "FarthestHeirLaw" (123 : Nat) ({ cls := "FarthestHeir", name := "feed", desc := "(IIIII)I" } : Jvm.MethodName) ∈ rx_tbl := rx_mem2 121 (by decide +kernel) (by decide +kernel)
theorem rl_w362 : Jvm.Cond.instanceMethod ({ cls := "FarthestHeir", name := "feed", desc := "(IIIII)I" } : Jvm.MethodName) ∈ rx_tbl := rx_mem2 122 (by decide +kernel) (by decide +kernel)
theorem rl_w363 : Jvm.Cond.selects "FarthestHeir" ({ cls := "FarthestHeir", name := "feed", desc := "(IIIII)I" } : Jvm.MethodName) ({ cls := "FarthestHeir", name := "feed", desc := "(IIIII)I" } : Jvm.MethodName) ∈ rx_tbl := rx_mem2 123 (by decide +kernel) (by decide +kernel)
theorem rl_w369 : Jvm.Cond.methodLink "FarthestHeirLaw" (147 : Nat) ({ cls := "FarthestHeir", name := "fault", desc := "()I" } : Jvm.MethodName) ∈ rx_tbl := rx_mem2 129 (by decide +kernel) (by decide +kernel)
theorem rl_w370 : Jvm.Cond.instanceMethod ({ cls := "FarthestHeir", name := "fault", desc := "()I" } : Jvm.MethodName) ∈ rx_tbl := rx_mem2 130 (by decide +kernel) (by decide +kernel)
theorem rl_w371 : Jvm.Cond.selects "FarthestHeir" ({ cls := "FarthestHeir", name := "fault", desc := "()I" } : Jvm.MethodName) ({ cls := "FarthestHeir", name := "fault", desc := "()I" } : Jvm.MethodName) ∈ rx_tbl := rx_mem2 131 (by decide +kernel) (by decide +kernel)
theorem rl_w373 : Jvm.Cond.methodLink "FarthestHeirLaw" (151 : Nat) ({ cls := "FarthestHeir", name := "undo", desc := "()I" } : Jvm.MethodName) ∈ rx_tbl := rx_mem2 133 (by decide +kernel) (by decide +kernel)
theorem rl_w374 : Jvm.Cond.instanceMethod ({ cls := "FarthestHeir", name := "undo", desc := "()I" } : Jvm.MethodName) ∈ rx_tbl := rx_mem2 134 (by decide +kernel) (by decide +kernel)
theorem rl_w375 : Jvm.Cond.selects "FarthestHeir" ({ cls := "FarthestHeir", name := "undo", desc := "()I" } : Jvm.MethodName) ({ cls := "FarthestHeir", name := "undo", desc := "()I" } : Jvm.MethodName) ∈ rx_tbl := rx_mem2 135 (by decide +kernel) (by decide +kernel)
theorem rl_w381 : Jvm.Cond.methodLink "FarthestHeirLaw" (187 : Nat) ({ cls := "FarthestHeir", name := "pairs", desc := "()I" } : Jvm.MethodName) ∈ rx_tbl := rx_mem2 141 (by decide +kernel) (by decide +kernel)
theorem rl_w382 : Jvm.Cond.instanceMethod ({ cls := "FarthestHeir", name := "pairs", desc := "()I" } : Jvm.MethodName) ∈ rx_tbl := rx_mem2 142 (by decide +kernel) (by decide +kernel)
theorem rl_w383 : Jvm.Cond.selects "FarthestHeir" ({ cls := "FarthestHeir", name := "pairs", desc := "()I" } : Jvm.MethodName) ({ cls := "FarthestHeir", name := "pairs", desc := "()I" } : Jvm.MethodName) ∈ rx_tbl := rx_mem2 143 (by decide +kernel) (by decide +kernel)
theorem rl_w456 : Jvm.Cond.methodLink "FarthestHeirLaw" (251 : Nat) ({ cls := "FarthestHeir", name := "image", desc := "()I" } : Jvm.MethodName) ∈ rx_tbl := rx_mem2 216 (by decide +kernel) (by decide +kernel)
theorem rl_w457 : Jvm.Cond.instanceMethod ({ cls := "FarthestHeir", name := "image", desc := "()I" } : Jvm.MethodName) ∈ rx_tbl := rx_mem2 217 (by decide +kernel) (by decide +kernel)
theorem rl_w458 : Jvm.Cond.selects "FarthestHeir" ({ cls := "FarthestHeir", name := "image", desc := "()I" } : Jvm.MethodName) ({ cls := "FarthestHeir", name := "image", desc := "()I" } : Jvm.MethodName) ∈ rx_tbl := rx_mem2 218 (by decide +kernel) (by decide +kernel)
theorem rl_w478 : Jvm.Cond.methodLink "FarthestHeirLaw" (255 : Nat) ({ cls := "FarthestHeir", name := "restore", desc := "()I" } : Jvm.MethodName) ∈ rx_tbl := rx_mem2 238 (by decide +kernel) (by decide +kernel)
theorem rl_w479 : Jvm.Cond.instanceMethod ({ cls := "FarthestHeir", name := "restore", desc := "()I" } : Jvm.MethodName) ∈ rx_tbl := rx_mem2 239 (by decide +kernel) (by decide +kernel)
theorem rl_w480 : Jvm.Cond.selects "FarthestHeir" ({ cls := "FarthestHeir", name := "restore", desc := "()I" } : Jvm.MethodName) ({ cls := "FarthestHeir", name := "restore", desc := "()I" } : Jvm.MethodName) ∈ rx_tbl := rx_mem3 0 (by decide +kernel) (by decide +kernel)
theorem rl_w482 : Jvm.Cond.methodLink "FarthestHeirLaw" (259 : Nat) ({ cls := "FarthestHeir", name := "status", desc := "(I)I" } : Jvm.MethodName) ∈ rx_tbl := rx_mem3 2 (by decide +kernel) (by decide +kernel)
theorem rl_w483 : Jvm.Cond.instanceMethod ({ cls := "FarthestHeir", name := "status", desc := "(I)I" } : Jvm.MethodName) ∈ rx_tbl := rx_mem3 3 (by decide +kernel) (by decide +kernel)
theorem rl_w484 : Jvm.Cond.selects "FarthestHeir" ({ cls := "FarthestHeir", name := "status", desc := "(I)I" } : Jvm.MethodName) ({ cls := "FarthestHeir", name := "status", desc := "(I)I" } : Jvm.MethodName) ∈ rx_tbl := rx_mem3 4 (by decide +kernel) (by decide +kernel)
theorem rl_w486 : Jvm.Cond.methodLink "FarthestHeirLaw" (263 : Nat) ({ cls := "FarthestHeir", name := "count", desc := "(I)I" } : Jvm.MethodName) ∈ rx_tbl := rx_mem3 6 (by decide +kernel) (by decide +kernel)
theorem rl_w487 : Jvm.Cond.instanceMethod ({ cls := "FarthestHeir", name := "count", desc := "(I)I" } : Jvm.MethodName) ∈ rx_tbl := rx_mem3 7 (by decide +kernel) (by decide +kernel)
theorem rl_w488 : Jvm.Cond.selects "FarthestHeir" ({ cls := "FarthestHeir", name := "count", desc := "(I)I" } : Jvm.MethodName) ({ cls := "FarthestHeir", name := "count", desc := "(I)I" } : Jvm.MethodName) ∈ rx_tbl := rx_mem3 8 (by decide +kernel) (by decide +kernel)
theorem rl_w490 : Jvm.Cond.methodLink "FarthestHeirLaw" (128 : Nat) ({ cls := "FarthestHeirLaw", name := "dukedom", desc := "(LFarthestHeir;I[J)I" } : Jvm.MethodName) ∈ rx_tbl := rx_mem3 10 (by decide +kernel) (by decide +kernel)
theorem rl_w491 : Jvm.Cond.static ({ cls := "FarthestHeirLaw", name := "dukedom", desc := "(LFarthestHeir;I[J)I" } : Jvm.MethodName) ∈ rx_tbl := rx_mem3 11 (by decide +kernel) (by decide +kernel)
theorem rl_w492 : Jvm.Cond.codeWith ({ cls := "FarthestHeirLaw", name := "dukedom", desc := "(LFarthestHeir;I[J)I" } : Jvm.MethodName) method_3_code (4 : Nat) (Option.some Jvm.ClassFile.FieldType.int) [((0 : Nat), (9 : Nat), (12 : Nat), (13 : Nat))] ∈ rx_tbl := rx_mem3 12 (by rfl) (by decide +kernel)
theorem rl_w493 : Jvm.Cond.classLink "FarthestHeirLaw" (13 : Nat) "java/lang/IllegalArgumentException" ∈ rx_tbl := rx_mem3 13 (by decide +kernel) (by decide +kernel)
theorem rl_w494 : Jvm.Cond.methodLink "FarthestHeirLaw" (7 : Nat) ({ cls := "FarthestHeir", name := "dukedom", desc := "(I)I" } : Jvm.MethodName) ∈ rx_tbl := rx_mem3 14 (by decide +kernel) (by decide +kernel)
theorem rl_w495 : Jvm.Cond.instanceMethod ({ cls := "FarthestHeir", name := "dukedom", desc := "(I)I" } : Jvm.MethodName) ∈ rx_tbl := rx_mem3 15 (by decide +kernel) (by decide +kernel)
theorem rl_w496 : Jvm.Cond.selects "FarthestHeir" ({ cls := "FarthestHeir", name := "dukedom", desc := "(I)I" } : Jvm.MethodName) ({ cls := "FarthestHeir", name := "dukedom", desc := "(I)I" } : Jvm.MethodName) ∈ rx_tbl := rx_mem3 16 (by decide +kernel) (by decide +kernel)
theorem rl_w707 : Jvm.Cond.methodLink "FarthestHeirLaw" (138 : Nat) ({ cls := "FarthestHeirLaw", name := "law", desc := "(LFarthestHeir;I[J)I" } : Jvm.MethodName) ∈ rx_tbl := rx_mem3 227 (by decide +kernel) (by decide +kernel)
theorem rl_w708 : Jvm.Cond.static ({ cls := "FarthestHeirLaw", name := "law", desc := "(LFarthestHeir;I[J)I" } : Jvm.MethodName) ∈ rx_tbl := rx_mem3 228 (by decide +kernel) (by decide +kernel)
theorem rl_w709 : Jvm.Cond.codeWith ({ cls := "FarthestHeirLaw", name := "law", desc := "(LFarthestHeir;I[J)I" } : Jvm.MethodName) method_4_code (4 : Nat) (Option.some Jvm.ClassFile.FieldType.int) [((0 : Nat), (9 : Nat), (12 : Nat), (13 : Nat))] ∈ rx_tbl := rx_mem3 229 (by rfl) (by decide +kernel)
theorem rl_w710 : Jvm.Cond.methodLink "FarthestHeirLaw" (15 : Nat) ({ cls := "FarthestHeir", name := "law", desc := "(I)I" } : Jvm.MethodName) ∈ rx_tbl := rx_mem3 230 (by decide +kernel) (by decide +kernel)
theorem rl_w711 : Jvm.Cond.instanceMethod ({ cls := "FarthestHeir", name := "law", desc := "(I)I" } : Jvm.MethodName) ∈ rx_tbl := rx_mem3 231 (by decide +kernel) (by decide +kernel)
theorem rl_w712 : Jvm.Cond.selects "FarthestHeir" ({ cls := "FarthestHeir", name := "law", desc := "(I)I" } : Jvm.MethodName) ({ cls := "FarthestHeir", name := "law", desc := "(I)I" } : Jvm.MethodName) ∈ rx_tbl := rx_mem3 232 (by decide +kernel) (by decide +kernel)
theorem rl_w793 : Jvm.Cond.methodLink "FarthestHeirLaw" (141 : Nat) ({ cls := "FarthestHeirLaw", name := "work", desc := "(LFarthestHeir;I[J)I" } : Jvm.MethodName) ∈ rx_tbl := rx_mem4 73 (by decide +kernel) (by decide +kernel)
theorem rl_w794 : Jvm.Cond.static ({ cls := "FarthestHeirLaw", name := "work", desc := "(LFarthestHeir;I[J)I" } : Jvm.MethodName) ∈ rx_tbl := rx_mem4 74 (by decide +kernel) (by decide +kernel)
theorem rl_w795 : Jvm.Cond.codeWith ({ cls := "FarthestHeirLaw", name := "work", desc := "(LFarthestHeir;I[J)I" } : Jvm.MethodName) method_5_code (4 : Nat) (Option.some Jvm.ClassFile.FieldType.int) [((0 : Nat), (9 : Nat), (12 : Nat), (13 : Nat))] ∈ rx_tbl := rx_mem4 75 (by rfl) (by decide +kernel)
theorem rl_w796 : Jvm.Cond.methodLink "FarthestHeirLaw" (18 : Nat) ({ cls := "FarthestHeir", name := "work", desc := "(I)I" } : Jvm.MethodName) ∈ rx_tbl := rx_mem4 76 (by decide +kernel) (by decide +kernel)
theorem rl_w797 : Jvm.Cond.instanceMethod ({ cls := "FarthestHeir", name := "work", desc := "(I)I" } : Jvm.MethodName) ∈ rx_tbl := rx_mem4 77 (by decide +kernel) (by decide +kernel)
theorem rl_w798 : Jvm.Cond.selects "FarthestHeir" ({ cls := "FarthestHeir", name := "work", desc := "(I)I" } : Jvm.MethodName) ({ cls := "FarthestHeir", name := "work", desc := "(I)I" } : Jvm.MethodName) ∈ rx_tbl := rx_mem4 78 (by decide +kernel) (by decide +kernel)
theorem rl_w930 : Jvm.Cond.methodLink "FarthestHeirLaw" (144 : Nat) ({ cls := "FarthestHeirLaw", name := "book", desc := "(LFarthestHeir;I[J)I" } : Jvm.MethodName) ∈ rx_tbl := rx_mem4 210 (by decide +kernel) (by decide +kernel)
theorem rl_w931 : Jvm.Cond.static ({ cls := "FarthestHeirLaw", name := "book", desc := "(LFarthestHeir;I[J)I" } : Jvm.MethodName) ∈ rx_tbl := rx_mem4 211 (by decide +kernel) (by decide +kernel)
theorem rl_w932 : Jvm.Cond.codeWith ({ cls := "FarthestHeirLaw", name := "book", desc := "(LFarthestHeir;I[J)I" } : Jvm.MethodName) method_6_code (4 : Nat) (Option.some Jvm.ClassFile.FieldType.int) [((0 : Nat), (9 : Nat), (12 : Nat), (13 : Nat))] ∈ rx_tbl := rx_mem4 212 (by rfl) (by decide +kernel)
theorem rl_w933 : Jvm.Cond.methodLink "FarthestHeirLaw" (21 : Nat) ({ cls := "FarthestHeir", name := "book", desc := "(I)I" } : Jvm.MethodName) ∈ rx_tbl := rx_mem4 213 (by decide +kernel) (by decide +kernel)
theorem rl_w934 : Jvm.Cond.instanceMethod ({ cls := "FarthestHeir", name := "book", desc := "(I)I" } : Jvm.MethodName) ∈ rx_tbl := rx_mem4 214 (by decide +kernel) (by decide +kernel)
theorem rl_w935 : Jvm.Cond.selects "FarthestHeir" ({ cls := "FarthestHeir", name := "book", desc := "(I)I" } : Jvm.MethodName) ({ cls := "FarthestHeir", name := "book", desc := "(I)I" } : Jvm.MethodName) ∈ rx_tbl := rx_mem4 215 (by decide +kernel) (by decide +kernel)
theorem rl_w950 : Jvm.Cond.methodLink "FarthestHeirLaw" (155 : Nat) ({ cls := "FarthestHeirLaw", name := "told", desc := "(LFarthestHeir;I[J)I" } : Jvm.MethodName) ∈ rx_tbl := rx_mem4 230 (by decide +kernel) (by decide +kernel)
theorem rl_w951 : Jvm.Cond.static ({ cls := "FarthestHeirLaw", name := "told", desc := "(LFarthestHeir;I[J)I" } : Jvm.MethodName) ∈ rx_tbl := rx_mem4 231 (by decide +kernel) (by decide +kernel)
theorem rl_w952 : Jvm.Cond.codeWith ({ cls := "FarthestHeirLaw", name := "told", desc := "(LFarthestHeir;I[J)I" } : Jvm.MethodName) method_7_code (4 : Nat) (Option.some Jvm.ClassFile.FieldType.int) [((0 : Nat), (9 : Nat), (12 : Nat), (13 : Nat))] ∈ rx_tbl := rx_mem4 232 (by rfl) (by decide +kernel)
theorem rl_w953 : Jvm.Cond.methodLink "FarthestHeirLaw" (24 : Nat) ({ cls := "FarthestHeir", name := "told", desc := "(I)I" } : Jvm.MethodName) ∈ rx_tbl := rx_mem4 233 (by decide +kernel) (by decide +kernel)
theorem rl_w954 : Jvm.Cond.instanceMethod ({ cls := "FarthestHeir", name := "told", desc := "(I)I" } : Jvm.MethodName) ∈ rx_tbl := rx_mem4 234 (by decide +kernel) (by decide +kernel)
theorem rl_w955 : Jvm.Cond.selects "FarthestHeir" ({ cls := "FarthestHeir", name := "told", desc := "(I)I" } : Jvm.MethodName) ({ cls := "FarthestHeir", name := "told", desc := "(I)I" } : Jvm.MethodName) ∈ rx_tbl := rx_mem4 235 (by decide +kernel) (by decide +kernel)
theorem rl_w962 : Jvm.Cond.methodLink "FarthestHeirLaw" (158 : Nat) ({ cls := "FarthestHeirLaw", name := "person", desc := "(LFarthestHeir;II[J)I" } : Jvm.MethodName) ∈ rx_tbl := rx_mem5 2 (by decide +kernel) (by decide +kernel)
theorem rl_w963 : Jvm.Cond.static ({ cls := "FarthestHeirLaw", name := "person", desc := "(LFarthestHeir;II[J)I" } : Jvm.MethodName) ∈ rx_tbl := rx_mem5 3 (by decide +kernel) (by decide +kernel)
theorem rl_w964 : Jvm.Cond.codeWith ({ cls := "FarthestHeirLaw", name := "person", desc := "(LFarthestHeir;II[J)I" } : Jvm.MethodName) method_8_code (5 : Nat) (Option.some Jvm.ClassFile.FieldType.int) [((0 : Nat), (10 : Nat), (13 : Nat), (31 : Nat)), ((0 : Nat), (10 : Nat), (17 : Nat), (13 : Nat))] ∈ rx_tbl := rx_mem5 4 (by rfl) (by decide +kernel)
theorem rl_w965 : Jvm.Cond.classLink "FarthestHeirLaw" (31 : Nat) "java/util/NoSuchElementException" ∈ rx_tbl := rx_mem5 5 (by decide +kernel) (by decide +kernel)
theorem rl_w966 : Jvm.Cond.methodLink "FarthestHeirLaw" (27 : Nat) ({ cls := "FarthestHeir", name := "person", desc := "(II)I" } : Jvm.MethodName) ∈ rx_tbl := rx_mem5 6 (by decide +kernel) (by decide +kernel)
theorem rl_w967 : Jvm.Cond.instanceMethod ({ cls := "FarthestHeir", name := "person", desc := "(II)I" } : Jvm.MethodName) ∈ rx_tbl := rx_mem5 7 (by decide +kernel) (by decide +kernel)
theorem rl_w968 : Jvm.Cond.selects "FarthestHeir" ({ cls := "FarthestHeir", name := "person", desc := "(II)I" } : Jvm.MethodName) ({ cls := "FarthestHeir", name := "person", desc := "(II)I" } : Jvm.MethodName) ∈ rx_tbl := rx_mem5 8 (by decide +kernel) (by decide +kernel)
theorem rl_w999 : Jvm.Cond.methodLink "FarthestHeirLaw" (162 : Nat) ({ cls := "FarthestHeirLaw", name := "far", desc := "(LFarthestHeir;II[J)I" } : Jvm.MethodName) ∈ rx_tbl := rx_mem5 39 (by decide +kernel) (by decide +kernel)
theorem rl_w1000 : Jvm.Cond.static ({ cls := "FarthestHeirLaw", name := "far", desc := "(LFarthestHeir;II[J)I" } : Jvm.MethodName) ∈ rx_tbl := rx_mem5 40 (by decide +kernel) (by decide +kernel)
theorem rl_w1001 : Jvm.Cond.codeWith ({ cls := "FarthestHeirLaw", name := "far", desc := "(LFarthestHeir;II[J)I" } : Jvm.MethodName) method_9_code (5 : Nat) (Option.some Jvm.ClassFile.FieldType.int) [((0 : Nat), (10 : Nat), (13 : Nat), (31 : Nat))] ∈ rx_tbl := rx_mem5 41 (by rfl) (by decide +kernel)
theorem rl_w1002 : Jvm.Cond.methodLink "FarthestHeirLaw" (33 : Nat) ({ cls := "FarthestHeir", name := "far", desc := "(II)I" } : Jvm.MethodName) ∈ rx_tbl := rx_mem5 42 (by decide +kernel) (by decide +kernel)
theorem rl_w1003 : Jvm.Cond.instanceMethod ({ cls := "FarthestHeir", name := "far", desc := "(II)I" } : Jvm.MethodName) ∈ rx_tbl := rx_mem5 43 (by decide +kernel) (by decide +kernel)
theorem rl_w1004 : Jvm.Cond.selects "FarthestHeir" ({ cls := "FarthestHeir", name := "far", desc := "(II)I" } : Jvm.MethodName) ({ cls := "FarthestHeir", name := "far", desc := "(II)I" } : Jvm.MethodName) ∈ rx_tbl := rx_mem5 44 (by decide +kernel) (by decide +kernel)
theorem rl_w1007 : Jvm.Cond.methodLink "FarthestHeirLaw" (165 : Nat) ({ cls := "FarthestHeirLaw", name := "would", desc := "(LFarthestHeir;IIIIIIII[J)I" } : Jvm.MethodName) ∈ rx_tbl := rx_mem5 47 (by decide +kernel) (by decide +kernel)
theorem rl_w1008 : Jvm.Cond.static ({ cls := "FarthestHeirLaw", name := "would", desc := "(LFarthestHeir;IIIIIIII[J)I" } : Jvm.MethodName) ∈ rx_tbl := rx_mem5 48 (by decide +kernel) (by decide +kernel)
theorem rl_w1009 : Jvm.Cond.codeWith ({ cls := "FarthestHeirLaw", name := "would", desc := "(LFarthestHeir;IIIIIIII[J)I" } : Jvm.MethodName) method_10_code (11 : Nat) (Option.some Jvm.ClassFile.FieldType.int) [((0 : Nat), (22 : Nat), (25 : Nat), (13 : Nat))] ∈ rx_tbl := rx_mem5 49 (by rfl) (by decide +kernel)
theorem rl_w1010 : Jvm.Cond.methodLink "FarthestHeirLaw" (36 : Nat) ({ cls := "FarthestHeir", name := "would", desc := "(IIIIIIII)I" } : Jvm.MethodName) ∈ rx_tbl := rx_mem5 50 (by decide +kernel) (by decide +kernel)
theorem rl_w1011 : Jvm.Cond.instanceMethod ({ cls := "FarthestHeir", name := "would", desc := "(IIIIIIII)I" } : Jvm.MethodName) ∈ rx_tbl := rx_mem5 51 (by decide +kernel) (by decide +kernel)
theorem rl_w1012 : Jvm.Cond.selects "FarthestHeir" ({ cls := "FarthestHeir", name := "would", desc := "(IIIIIIII)I" } : Jvm.MethodName) ({ cls := "FarthestHeir", name := "would", desc := "(IIIIIIII)I" } : Jvm.MethodName) ∈ rx_tbl := rx_mem5 52 (by decide +kernel) (by decide +kernel)
theorem rl_w1016 : Jvm.Cond.methodLink "FarthestHeirLaw" (169 : Nat) ({ cls := "FarthestHeirLaw", name := "ahead", desc := "(LFarthestHeir;II[J)I" } : Jvm.MethodName) ∈ rx_tbl := rx_mem5 56 (by decide +kernel) (by decide +kernel)
theorem rl_w1017 : Jvm.Cond.static ({ cls := "FarthestHeirLaw", name := "ahead", desc := "(LFarthestHeir;II[J)I" } : Jvm.MethodName) ∈ rx_tbl := rx_mem5 57 (by decide +kernel) (by decide +kernel)
theorem rl_w1018 : Jvm.Cond.codeWith ({ cls := "FarthestHeirLaw", name := "ahead", desc := "(LFarthestHeir;II[J)I" } : Jvm.MethodName) method_11_code (5 : Nat) (Option.some Jvm.ClassFile.FieldType.int) [((0 : Nat), (10 : Nat), (13 : Nat), (13 : Nat))] ∈ rx_tbl := rx_mem5 58 (by rfl) (by decide +kernel)
theorem rl_w1019 : Jvm.Cond.methodLink "FarthestHeirLaw" (40 : Nat) ({ cls := "FarthestHeir", name := "ahead", desc := "(II)I" } : Jvm.MethodName) ∈ rx_tbl := rx_mem5 59 (by decide +kernel) (by decide +kernel)
theorem rl_w1020 : Jvm.Cond.instanceMethod ({ cls := "FarthestHeir", name := "ahead", desc := "(II)I" } : Jvm.MethodName) ∈ rx_tbl := rx_mem5 60 (by decide +kernel) (by decide +kernel)
theorem rl_w1021 : Jvm.Cond.selects "FarthestHeir" ({ cls := "FarthestHeir", name := "ahead", desc := "(II)I" } : Jvm.MethodName) ({ cls := "FarthestHeir", name := "ahead", desc := "(II)I" } : Jvm.MethodName) ∈ rx_tbl := rx_mem5 61 (by decide +kernel) (by decide +kernel)
theorem rl_w1028 : Jvm.Cond.methodLink "FarthestHeirLaw" (172 : Nat) ({ cls := "FarthestHeirLaw", name := "after", desc := "(LFarthestHeir;I[J)I" } : Jvm.MethodName) ∈ rx_tbl := rx_mem5 68 (by decide +kernel) (by decide +kernel)
theorem rl_w1029 : Jvm.Cond.static ({ cls := "FarthestHeirLaw", name := "after", desc := "(LFarthestHeir;I[J)I" } : Jvm.MethodName) ∈ rx_tbl := rx_mem5 69 (by decide +kernel) (by decide +kernel)
theorem rl_w1030 : Jvm.Cond.codeWith ({ cls := "FarthestHeirLaw", name := "after", desc := "(LFarthestHeir;I[J)I" } : Jvm.MethodName) method_12_code (4 : Nat) (Option.some Jvm.ClassFile.FieldType.int) [((0 : Nat), (9 : Nat), (12 : Nat), (13 : Nat))] ∈ rx_tbl := rx_mem5 70 (by rfl) (by decide +kernel)
theorem rl_w1031 : Jvm.Cond.methodLink "FarthestHeirLaw" (43 : Nat) ({ cls := "FarthestHeir", name := "after", desc := "(I)I" } : Jvm.MethodName) ∈ rx_tbl := rx_mem5 71 (by decide +kernel) (by decide +kernel)
theorem rl_w1032 : Jvm.Cond.instanceMethod ({ cls := "FarthestHeir", name := "after", desc := "(I)I" } : Jvm.MethodName) ∈ rx_tbl := rx_mem5 72 (by decide +kernel) (by decide +kernel)
theorem rl_w1033 : Jvm.Cond.selects "FarthestHeir" ({ cls := "FarthestHeir", name := "after", desc := "(I)I" } : Jvm.MethodName) ({ cls := "FarthestHeir", name := "after", desc := "(I)I" } : Jvm.MethodName) ∈ rx_tbl := rx_mem5 73 (by decide +kernel) (by decide +kernel)
theorem rl_w1036 : Jvm.Cond.methodLink "FarthestHeirLaw" (175 : Nat) ({ cls := "FarthestHeirLaw", name := "feint", desc := "(LFarthestHeir;II[J)I" } : Jvm.MethodName) ∈ rx_tbl := rx_mem5 76 (by decide +kernel) (by decide +kernel)
theorem rl_w1037 : Jvm.Cond.static ({ cls := "FarthestHeirLaw", name := "feint", desc := "(LFarthestHeir;II[J)I" } : Jvm.MethodName) ∈ rx_tbl := rx_mem5 77 (by decide +kernel) (by decide +kernel)
theorem rl_w1038 : Jvm.Cond.codeWith ({ cls := "FarthestHeirLaw", name := "feint", desc := "(LFarthestHeir;II[J)I" } : Jvm.MethodName) method_13_code (5 : Nat) (Option.some Jvm.ClassFile.FieldType.int) [((0 : Nat), (10 : Nat), (13 : Nat), (31 : Nat)), ((0 : Nat), (10 : Nat), (17 : Nat), (13 : Nat))] ∈ rx_tbl := rx_mem5 78 (by rfl) (by decide +kernel)
theorem rl_w1039 : Jvm.Cond.methodLink "FarthestHeirLaw" (46 : Nat) ({ cls := "FarthestHeir", name := "feint", desc := "(II)I" } : Jvm.MethodName) ∈ rx_tbl := rx_mem5 79 (by decide +kernel) (by decide +kernel)
theorem rl_w1040 : Jvm.Cond.instanceMethod ({ cls := "FarthestHeir", name := "feint", desc := "(II)I" } : Jvm.MethodName) ∈ rx_tbl := rx_mem5 80 (by decide +kernel) (by decide +kernel)
theorem rl_w1041 : Jvm.Cond.selects "FarthestHeir" ({ cls := "FarthestHeir", name := "feint", desc := "(II)I" } : Jvm.MethodName) ({ cls := "FarthestHeir", name := "feint", desc := "(II)I" } : Jvm.MethodName) ∈ rx_tbl := rx_mem5 81 (by decide +kernel) (by decide +kernel)
theorem rl_w1079 : Jvm.Cond.methodLink "FarthestHeirLaw" (178 : Nat) ({ cls := "FarthestHeirLaw", name := "ring", desc := "(LFarthestHeir;II[J)I" } : Jvm.MethodName) ∈ rx_tbl := rx_mem5 119 (by decide +kernel) (by decide +kernel)
theorem rl_w1080 : Jvm.Cond.static ({ cls := "FarthestHeirLaw", name := "ring", desc := "(LFarthestHeir;II[J)I" } : Jvm.MethodName) ∈ rx_tbl := rx_mem5 120 (by decide +kernel) (by decide +kernel)
theorem rl_w1081 : Jvm.Cond.codeWith ({ cls := "FarthestHeirLaw", name := "ring", desc := "(LFarthestHeir;II[J)I" } : Jvm.MethodName) method_14_code (5 : Nat) (Option.some Jvm.ClassFile.FieldType.int) [((0 : Nat), (10 : Nat), (13 : Nat), (31 : Nat)), ((0 : Nat), (10 : Nat), (17 : Nat), (13 : Nat))] ∈ rx_tbl := rx_mem5 121 (by rfl) (by decide +kernel)
theorem rl_w1082 : Jvm.Cond.methodLink "FarthestHeirLaw" (49 : Nat) ({ cls := "FarthestHeir", name := "ring", desc := "(II)I" } : Jvm.MethodName) ∈ rx_tbl := rx_mem5 122 (by decide +kernel) (by decide +kernel)
theorem rl_w1083 : Jvm.Cond.instanceMethod ({ cls := "FarthestHeir", name := "ring", desc := "(II)I" } : Jvm.MethodName) ∈ rx_tbl := rx_mem5 123 (by decide +kernel) (by decide +kernel)
theorem rl_w1084 : Jvm.Cond.selects "FarthestHeir" ({ cls := "FarthestHeir", name := "ring", desc := "(II)I" } : Jvm.MethodName) ({ cls := "FarthestHeir", name := "ring", desc := "(II)I" } : Jvm.MethodName) ∈ rx_tbl := rx_mem5 124 (by decide +kernel) (by decide +kernel)
theorem rl_w1096 : Jvm.Cond.methodLink "FarthestHeirLaw" (181 : Nat) ({ cls := "FarthestHeirLaw", name := "like", desc := "(LFarthestHeir;I[J)I" } : Jvm.MethodName) ∈ rx_tbl := rx_mem5 136 (by decide +kernel) (by decide +kernel)
theorem rl_w1097 : Jvm.Cond.static ({ cls := "FarthestHeirLaw", name := "like", desc := "(LFarthestHeir;I[J)I" } : Jvm.MethodName) ∈ rx_tbl := rx_mem5 137 (by decide +kernel) (by decide +kernel)
theorem rl_w1098 : Jvm.Cond.codeWith ({ cls := "FarthestHeirLaw", name := "like", desc := "(LFarthestHeir;I[J)I" } : Jvm.MethodName) method_15_code (4 : Nat) (Option.some Jvm.ClassFile.FieldType.int) [((0 : Nat), (9 : Nat), (12 : Nat), (13 : Nat))] ∈ rx_tbl := rx_mem5 138 (by rfl) (by decide +kernel)
theorem rl_w1099 : Jvm.Cond.methodLink "FarthestHeirLaw" (52 : Nat) ({ cls := "FarthestHeir", name := "like", desc := "(I)I" } : Jvm.MethodName) ∈ rx_tbl := rx_mem5 139 (by decide +kernel) (by decide +kernel)
theorem rl_w1100 : Jvm.Cond.instanceMethod ({ cls := "FarthestHeir", name := "like", desc := "(I)I" } : Jvm.MethodName) ∈ rx_tbl := rx_mem5 140 (by decide +kernel) (by decide +kernel)
theorem rl_w1101 : Jvm.Cond.selects "FarthestHeir" ({ cls := "FarthestHeir", name := "like", desc := "(I)I" } : Jvm.MethodName) ({ cls := "FarthestHeir", name := "like", desc := "(I)I" } : Jvm.MethodName) ∈ rx_tbl := rx_mem5 141 (by decide +kernel) (by decide +kernel)
theorem rl_w1122 : Jvm.Cond.methodLink "FarthestHeirLaw" (184 : Nat) ({ cls := "FarthestHeirLaw", name := "ask", desc := "(LFarthestHeir;I[J)I" } : Jvm.MethodName) ∈ rx_tbl := rx_mem5 162 (by decide +kernel) (by decide +kernel)
theorem rl_w1123 : Jvm.Cond.static ({ cls := "FarthestHeirLaw", name := "ask", desc := "(LFarthestHeir;I[J)I" } : Jvm.MethodName) ∈ rx_tbl := rx_mem5 163 (by decide +kernel) (by decide +kernel)
theorem rl_w1124 : Jvm.Cond.codeWith ({ cls := "FarthestHeirLaw", name := "ask", desc := "(LFarthestHeir;I[J)I" } : Jvm.MethodName) method_16_code (4 : Nat) (Option.some Jvm.ClassFile.FieldType.int) [((0 : Nat), (9 : Nat), (12 : Nat), (13 : Nat))] ∈ rx_tbl := rx_mem5 164 (by rfl) (by decide +kernel)
theorem rl_w1125 : Jvm.Cond.methodLink "FarthestHeirLaw" (55 : Nat) ({ cls := "FarthestHeir", name := "ask", desc := "(I)I" } : Jvm.MethodName) ∈ rx_tbl := rx_mem5 165 (by decide +kernel) (by decide +kernel)
theorem rl_w1126 : Jvm.Cond.instanceMethod ({ cls := "FarthestHeir", name := "ask", desc := "(I)I" } : Jvm.MethodName) ∈ rx_tbl := rx_mem5 166 (by decide +kernel) (by decide +kernel)
theorem rl_w1127 : Jvm.Cond.selects "FarthestHeir" ({ cls := "FarthestHeir", name := "ask", desc := "(I)I" } : Jvm.MethodName) ({ cls := "FarthestHeir", name := "ask", desc := "(I)I" } : Jvm.MethodName) ∈ rx_tbl := rx_mem5 167 (by decide +kernel) (by decide +kernel)
theorem rl_w1137 : Jvm.Cond.methodLink "FarthestHeirLaw" (191 : Nat) ({ cls := "FarthestHeirLaw", name := "mate", desc := "(LFarthestHeir;I[J)I" } : Jvm.MethodName) ∈ rx_tbl := rx_mem5 177 (by decide +kernel) (by decide +kernel)
theorem rl_w1138 : Jvm.Cond.static ({ cls := "FarthestHeirLaw", name := "mate", desc := "(LFarthestHeir;I[J)I" } : Jvm.MethodName) ∈ rx_tbl := rx_mem5 178 (by decide +kernel) (by decide +kernel)
theorem rl_w1139 : Jvm.Cond.codeWith ({ cls := "FarthestHeirLaw", name := "mate", desc := "(LFarthestHeir;I[J)I" } : Jvm.MethodName) method_17_code (4 : Nat) (Option.some Jvm.ClassFile.FieldType.int) [((0 : Nat), (9 : Nat), (12 : Nat), (31 : Nat))] ∈ rx_tbl := rx_mem5 179 (by rfl) (by decide +kernel)
theorem rl_w1140 : Jvm.Cond.methodLink "FarthestHeirLaw" (58 : Nat) ({ cls := "FarthestHeir", name := "mate", desc := "(I)I" } : Jvm.MethodName) ∈ rx_tbl := rx_mem5 180 (by decide +kernel) (by decide +kernel)
theorem rl_w1141 : Jvm.Cond.instanceMethod ({ cls := "FarthestHeir", name := "mate", desc := "(I)I" } : Jvm.MethodName) ∈ rx_tbl := rx_mem5 181 (by decide +kernel) (by decide +kernel)
theorem rl_w1142 : Jvm.Cond.selects "FarthestHeir" ({ cls := "FarthestHeir", name := "mate", desc := "(I)I" } : Jvm.MethodName) ({ cls := "FarthestHeir", name := "mate", desc := "(I)I" } : Jvm.MethodName) ∈ rx_tbl := rx_mem5 182 (by decide +kernel) (by decide +kernel)
theorem rl_w1144 : Jvm.Cond.methodLink "FarthestHeirLaw" (194 : Nat) ({ cls := "FarthestHeirLaw", name := "row", desc := "(LFarthestHeir;I[J)I" } : Jvm.MethodName) ∈ rx_tbl := rx_mem5 184 (by decide +kernel) (by decide +kernel)
theorem rl_w1145 : Jvm.Cond.static ({ cls := "FarthestHeirLaw", name := "row", desc := "(LFarthestHeir;I[J)I" } : Jvm.MethodName) ∈ rx_tbl := rx_mem5 185 (by decide +kernel) (by decide +kernel)
theorem rl_w1146 : Jvm.Cond.codeWith ({ cls := "FarthestHeirLaw", name := "row", desc := "(LFarthestHeir;I[J)I" } : Jvm.MethodName) method_18_code (4 : Nat) (Option.some Jvm.ClassFile.FieldType.int) [((0 : Nat), (9 : Nat), (12 : Nat), (13 : Nat))] ∈ rx_tbl := rx_mem5 186 (by rfl) (by decide +kernel)
theorem rl_w1147 : Jvm.Cond.methodLink "FarthestHeirLaw" (61 : Nat) ({ cls := "FarthestHeir", name := "row", desc := "(I)I" } : Jvm.MethodName) ∈ rx_tbl := rx_mem5 187 (by decide +kernel) (by decide +kernel)
theorem rl_w1148 : Jvm.Cond.instanceMethod ({ cls := "FarthestHeir", name := "row", desc := "(I)I" } : Jvm.MethodName) ∈ rx_tbl := rx_mem5 188 (by decide +kernel) (by decide +kernel)
theorem rl_w1149 : Jvm.Cond.selects "FarthestHeir" ({ cls := "FarthestHeir", name := "row", desc := "(I)I" } : Jvm.MethodName) ({ cls := "FarthestHeir", name := "row", desc := "(I)I" } : Jvm.MethodName) ∈ rx_tbl := rx_mem5 189 (by decide +kernel) (by decide +kernel)
theorem rl_w1163 : Jvm.Cond.methodLink "FarthestHeirLaw" (197 : Nat) ({ cls := "FarthestHeirLaw", name := "rowed", desc := "(LFarthestHeir;II[J)I" } : Jvm.MethodName) ∈ rx_tbl := rx_mem5 203 (by decide +kernel) (by decide +kernel)
theorem rl_w1164 : Jvm.Cond.static ({ cls := "FarthestHeirLaw", name := "rowed", desc := "(LFarthestHeir;II[J)I" } : Jvm.MethodName) ∈ rx_tbl := rx_mem5 204 (by decide +kernel) (by decide +kernel)
theorem rl_w1165 : Jvm.Cond.codeWith ({ cls := "FarthestHeirLaw", name := "rowed", desc := "(LFarthestHeir;II[J)I" } : Jvm.MethodName) method_19_code (5 : Nat) (Option.some Jvm.ClassFile.FieldType.int) [((0 : Nat), (10 : Nat), (13 : Nat), (13 : Nat))] ∈ rx_tbl := rx_mem5 205 (by rfl) (by decide +kernel)
theorem rl_w1166 : Jvm.Cond.methodLink "FarthestHeirLaw" (64 : Nat) ({ cls := "FarthestHeir", name := "rowed", desc := "(II)I" } : Jvm.MethodName) ∈ rx_tbl := rx_mem5 206 (by decide +kernel) (by decide +kernel)
theorem rl_w1167 : Jvm.Cond.instanceMethod ({ cls := "FarthestHeir", name := "rowed", desc := "(II)I" } : Jvm.MethodName) ∈ rx_tbl := rx_mem5 207 (by decide +kernel) (by decide +kernel)
theorem rl_w1168 : Jvm.Cond.selects "FarthestHeir" ({ cls := "FarthestHeir", name := "rowed", desc := "(II)I" } : Jvm.MethodName) ({ cls := "FarthestHeir", name := "rowed", desc := "(II)I" } : Jvm.MethodName) ∈ rx_tbl := rx_mem5 208 (by decide +kernel) (by decide +kernel)
theorem rl_w1170 : Jvm.Cond.methodLink "FarthestHeirLaw" (200 : Nat) ({ cls := "FarthestHeirLaw", name := "child", desc := "(LFarthestHeir;I[J)I" } : Jvm.MethodName) ∈ rx_tbl := rx_mem5 210 (by decide +kernel) (by decide +kernel)
theorem rl_w1171 : Jvm.Cond.static ({ cls := "FarthestHeirLaw", name := "child", desc := "(LFarthestHeir;I[J)I" } : Jvm.MethodName) ∈ rx_tbl := rx_mem5 211 (by decide +kernel) (by decide +kernel)
theorem rl_w1172 : Jvm.Cond.codeWith ({ cls := "FarthestHeirLaw", name := "child", desc := "(LFarthestHeir;I[J)I" } : Jvm.MethodName) method_20_code (4 : Nat) (Option.some Jvm.ClassFile.FieldType.int) [((0 : Nat), (9 : Nat), (12 : Nat), (13 : Nat))] ∈ rx_tbl := rx_mem5 212 (by rfl) (by decide +kernel)
theorem rl_w1173 : Jvm.Cond.methodLink "FarthestHeirLaw" (67 : Nat) ({ cls := "FarthestHeir", name := "child", desc := "(I)I" } : Jvm.MethodName) ∈ rx_tbl := rx_mem5 213 (by decide +kernel) (by decide +kernel)
theorem rl_w1174 : Jvm.Cond.instanceMethod ({ cls := "FarthestHeir", name := "child", desc := "(I)I" } : Jvm.MethodName) ∈ rx_tbl := rx_mem5 214 (by decide +kernel) (by decide +kernel)
theorem rl_w1175 : Jvm.Cond.selects "FarthestHeir" ({ cls := "FarthestHeir", name := "child", desc := "(I)I" } : Jvm.MethodName) ({ cls := "FarthestHeir", name := "child", desc := "(I)I" } : Jvm.MethodName) ∈ rx_tbl := rx_mem5 215 (by decide +kernel) (by decide +kernel)
theorem rl_w1184 : Jvm.Cond.methodLink "FarthestHeirLaw" (203 : Nat) ({ cls := "FarthestHeirLaw", name := "middling", desc := "(LFarthestHeir;I[J)I" } : Jvm.MethodName) ∈ rx_tbl := rx_mem5 224 (by decide +kernel) (by decide +kernel)
theorem rl_w1185 : Jvm.Cond.static ({ cls := "FarthestHeirLaw", name := "middling", desc := "(LFarthestHeir;I[J)I" } : Jvm.MethodName) ∈ rx_tbl := rx_mem5 225 (by decide +kernel) (by decide +kernel)
theorem rl_w1186 : Jvm.Cond.codeWith ({ cls := "FarthestHeirLaw", name := "middling", desc := "(LFarthestHeir;I[J)I" } : Jvm.MethodName) method_21_code (4 : Nat) (Option.some Jvm.ClassFile.FieldType.int) [((0 : Nat), (9 : Nat), (12 : Nat), (13 : Nat))] ∈ rx_tbl := rx_mem5 226 (by rfl) (by decide +kernel)
theorem rl_w1187 : Jvm.Cond.methodLink "FarthestHeirLaw" (70 : Nat) ({ cls := "FarthestHeir", name := "middling", desc := "(I)I" } : Jvm.MethodName) ∈ rx_tbl := rx_mem5 227 (by decide +kernel) (by decide +kernel)
theorem rl_w1188 : Jvm.Cond.instanceMethod ({ cls := "FarthestHeir", name := "middling", desc := "(I)I" } : Jvm.MethodName) ∈ rx_tbl := rx_mem5 228 (by decide +kernel) (by decide +kernel)
theorem rl_w1189 : Jvm.Cond.selects "FarthestHeir" ({ cls := "FarthestHeir", name := "middling", desc := "(I)I" } : Jvm.MethodName) ({ cls := "FarthestHeir", name := "middling", desc := "(I)I" } : Jvm.MethodName) ∈ rx_tbl := rx_mem5 229 (by decide +kernel) (by decide +kernel)
theorem rl_w1192 : Jvm.Cond.methodLink "FarthestHeirLaw" (206 : Nat) ({ cls := "FarthestHeirLaw", name := "chance", desc := "(LFarthestHeir;IIII[J)I" } : Jvm.MethodName) ∈ rx_tbl := rx_mem5 232 (by decide +kernel) (by decide +kernel)
theorem rl_w1193 : Jvm.Cond.static ({ cls := "FarthestHeirLaw", name := "chance", desc := "(LFarthestHeir;IIII[J)I" } : Jvm.MethodName) ∈ rx_tbl := rx_mem5 233 (by decide +kernel) (by decide +kernel)
theorem rl_w1194 : Jvm.Cond.codeWith ({ cls := "FarthestHeirLaw", name := "chance", desc := "(LFarthestHeir;IIII[J)I" } : Jvm.MethodName) method_22_code (7 : Nat) (Option.some Jvm.ClassFile.FieldType.int) [((0 : Nat), (13 : Nat), (16 : Nat), (13 : Nat))] ∈ rx_tbl := rx_mem5 234 (by rfl) (by decide +kernel)
theorem rl_w1195 : Jvm.Cond.methodLink "FarthestHeirLaw" (73 : Nat) ({ cls := "FarthestHeir", name := "chance", desc := "(IIII)J" } : Jvm.MethodName) ∈ rx_tbl := rx_mem5 235 (by decide +kernel) (by decide +kernel)
theorem rl_w1196 : Jvm.Cond.instanceMethod ({ cls := "FarthestHeir", name := "chance", desc := "(IIII)J" } : Jvm.MethodName) ∈ rx_tbl := rx_mem5 236 (by decide +kernel) (by decide +kernel)
theorem rl_w1197 : Jvm.Cond.selects "FarthestHeir" ({ cls := "FarthestHeir", name := "chance", desc := "(IIII)J" } : Jvm.MethodName) ({ cls := "FarthestHeir", name := "chance", desc := "(IIII)J" } : Jvm.MethodName) ∈ rx_tbl := rx_mem5 237 (by decide +kernel) (by decide +kernel)
theorem rl_w1209 : Jvm.Cond.methodLink "FarthestHeirLaw" (210 : Nat) ({ cls := "FarthestHeirLaw", name := "feigning", desc := "(LFarthestHeir;III[J)I" } : Jvm.MethodName) ∈ rx_tbl := rx_mem6 9 (by decide +kernel) (by decide +kernel)
theorem rl_w1210 : Jvm.Cond.static ({ cls := "FarthestHeirLaw", name := "feigning", desc := "(LFarthestHeir;III[J)I" } : Jvm.MethodName) ∈ rx_tbl := rx_mem6 10 (by decide +kernel) (by decide +kernel)
theorem rl_w1211 : Jvm.Cond.codeWith ({ cls := "FarthestHeirLaw", name := "feigning", desc := "(LFarthestHeir;III[J)I" } : Jvm.MethodName) method_23_code (6 : Nat) (Option.some Jvm.ClassFile.FieldType.int) [((0 : Nat), (12 : Nat), (15 : Nat), (13 : Nat))] ∈ rx_tbl := rx_mem6 11 (by rfl) (by decide +kernel)
theorem rl_w1212 : Jvm.Cond.methodLink "FarthestHeirLaw" (77 : Nat) ({ cls := "FarthestHeir", name := "feigning", desc := "(III)I" } : Jvm.MethodName) ∈ rx_tbl := rx_mem6 12 (by decide +kernel) (by decide +kernel)
theorem rl_w1213 : Jvm.Cond.instanceMethod ({ cls := "FarthestHeir", name := "feigning", desc := "(III)I" } : Jvm.MethodName) ∈ rx_tbl := rx_mem6 13 (by decide +kernel) (by decide +kernel)
theorem rl_w1214 : Jvm.Cond.selects "FarthestHeir" ({ cls := "FarthestHeir", name := "feigning", desc := "(III)I" } : Jvm.MethodName) ({ cls := "FarthestHeir", name := "feigning", desc := "(III)I" } : Jvm.MethodName) ∈ rx_tbl := rx_mem6 14 (by decide +kernel) (by decide +kernel)
theorem rl_w1219 : Jvm.Cond.methodLink "FarthestHeirLaw" (214 : Nat) ({ cls := "FarthestHeirLaw", name := "land", desc := "(LFarthestHeir;III[J)I" } : Jvm.MethodName) ∈ rx_tbl := rx_mem6 19 (by decide +kernel) (by decide +kernel)
theorem rl_w1220 : Jvm.Cond.static ({ cls := "FarthestHeirLaw", name := "land", desc := "(LFarthestHeir;III[J)I" } : Jvm.MethodName) ∈ rx_tbl := rx_mem6 20 (by decide +kernel) (by decide +kernel)
theorem rl_w1221 : Jvm.Cond.codeWith ({ cls := "FarthestHeirLaw", name := "land", desc := "(LFarthestHeir;III[J)I" } : Jvm.MethodName) method_24_code (6 : Nat) (Option.some Jvm.ClassFile.FieldType.int) [((0 : Nat), (12 : Nat), (15 : Nat), (31 : Nat)), ((0 : Nat), (12 : Nat), (19 : Nat), (13 : Nat))] ∈ rx_tbl := rx_mem6 21 (by rfl) (by decide +kernel)
theorem rl_w1222 : Jvm.Cond.methodLink "FarthestHeirLaw" (81 : Nat) ({ cls := "FarthestHeir", name := "land", desc := "(III)I" } : Jvm.MethodName) ∈ rx_tbl := rx_mem6 22 (by decide +kernel) (by decide +kernel)
theorem rl_w1223 : Jvm.Cond.instanceMethod ({ cls := "FarthestHeir", name := "land", desc := "(III)I" } : Jvm.MethodName) ∈ rx_tbl := rx_mem6 23 (by decide +kernel) (by decide +kernel)
theorem rl_w1224 : Jvm.Cond.selects "FarthestHeir" ({ cls := "FarthestHeir", name := "land", desc := "(III)I" } : Jvm.MethodName) ({ cls := "FarthestHeir", name := "land", desc := "(III)I" } : Jvm.MethodName) ∈ rx_tbl := rx_mem6 24 (by decide +kernel) (by decide +kernel)
theorem rl_w1236 : Jvm.Cond.methodLink "FarthestHeirLaw" (217 : Nat) ({ cls := "FarthestHeirLaw", name := "oldest", desc := "(LFarthestHeir;I[J)I" } : Jvm.MethodName) ∈ rx_tbl := rx_mem6 36 (by decide +kernel) (by decide +kernel)
theorem rl_w1237 : Jvm.Cond.static ({ cls := "FarthestHeirLaw", name := "oldest", desc := "(LFarthestHeir;I[J)I" } : Jvm.MethodName) ∈ rx_tbl := rx_mem6 37 (by decide +kernel) (by decide +kernel)
theorem rl_w1238 : Jvm.Cond.codeWith ({ cls := "FarthestHeirLaw", name := "oldest", desc := "(LFarthestHeir;I[J)I" } : Jvm.MethodName) method_25_code (4 : Nat) (Option.some Jvm.ClassFile.FieldType.int) [((0 : Nat), (9 : Nat), (12 : Nat), (13 : Nat))] ∈ rx_tbl := rx_mem6 38 (by rfl) (by decide +kernel)
theorem rl_w1239 : Jvm.Cond.methodLink "FarthestHeirLaw" (84 : Nat) ({ cls := "FarthestHeir", name := "oldest", desc := "(I)I" } : Jvm.MethodName) ∈ rx_tbl := rx_mem6 39 (by decide +kernel) (by decide +kernel)
theorem rl_w1240 : Jvm.Cond.instanceMethod ({ cls := "FarthestHeir", name := "oldest", desc := "(I)I" } : Jvm.MethodName) ∈ rx_tbl := rx_mem6 40 (by decide +kernel) (by decide +kernel)
theorem rl_w1241 : Jvm.Cond.selects "FarthestHeir" ({ cls := "FarthestHeir", name := "oldest", desc := "(I)I" } : Jvm.MethodName) ({ cls := "FarthestHeir", name := "oldest", desc := "(I)I" } : Jvm.MethodName) ∈ rx_tbl := rx_mem6 41 (by decide +kernel) (by decide +kernel)
theorem rl_w1243 : Jvm.Cond.methodLink "FarthestHeirLaw" (220 : Nat) ({ cls := "FarthestHeirLaw", name := "alike", desc := "(LFarthestHeir;I[J)I" } : Jvm.MethodName) ∈ rx_tbl := rx_mem6 43 (by decide +kernel) (by decide +kernel)
theorem rl_w1244 : Jvm.Cond.static ({ cls := "FarthestHeirLaw", name := "alike", desc := "(LFarthestHeir;I[J)I" } : Jvm.MethodName) ∈ rx_tbl := rx_mem6 44 (by decide +kernel) (by decide +kernel)
theorem rl_w1245 : Jvm.Cond.codeWith ({ cls := "FarthestHeirLaw", name := "alike", desc := "(LFarthestHeir;I[J)I" } : Jvm.MethodName) method_26_code (4 : Nat) (Option.some Jvm.ClassFile.FieldType.int) [((0 : Nat), (9 : Nat), (12 : Nat), (13 : Nat))] ∈ rx_tbl := rx_mem6 45 (by rfl) (by decide +kernel)
theorem rl_w1246 : Jvm.Cond.methodLink "FarthestHeirLaw" (87 : Nat) ({ cls := "FarthestHeir", name := "alike", desc := "(I)I" } : Jvm.MethodName) ∈ rx_tbl := rx_mem6 46 (by decide +kernel) (by decide +kernel)
theorem rl_w1247 : Jvm.Cond.instanceMethod ({ cls := "FarthestHeir", name := "alike", desc := "(I)I" } : Jvm.MethodName) ∈ rx_tbl := rx_mem6 47 (by decide +kernel) (by decide +kernel)
theorem rl_w1248 : Jvm.Cond.selects "FarthestHeir" ({ cls := "FarthestHeir", name := "alike", desc := "(I)I" } : Jvm.MethodName) ({ cls := "FarthestHeir", name := "alike", desc := "(I)I" } : Jvm.MethodName) ∈ rx_tbl := rx_mem6 48 (by decide +kernel) (by decide +kernel)
theorem rl_w1255 : Jvm.Cond.methodLink "FarthestHeirLaw" (223 : Nat) ({ cls := "FarthestHeirLaw", name := "beyond", desc := "(LFarthestHeir;II[J)I" } : Jvm.MethodName) ∈ rx_tbl := rx_mem6 55 (by decide +kernel) (by decide +kernel)
theorem rl_w1256 : Jvm.Cond.static ({ cls := "FarthestHeirLaw", name := "beyond", desc := "(LFarthestHeir;II[J)I" } : Jvm.MethodName) ∈ rx_tbl := rx_mem6 56 (by decide +kernel) (by decide +kernel)
theorem rl_w1257 : Jvm.Cond.codeWith ({ cls := "FarthestHeirLaw", name := "beyond", desc := "(LFarthestHeir;II[J)I" } : Jvm.MethodName) method_27_code (5 : Nat) (Option.some Jvm.ClassFile.FieldType.int) [((0 : Nat), (10 : Nat), (13 : Nat), (31 : Nat)), ((0 : Nat), (10 : Nat), (17 : Nat), (13 : Nat))] ∈ rx_tbl := rx_mem6 57 (by rfl) (by decide +kernel)
theorem rl_w1258 : Jvm.Cond.methodLink "FarthestHeirLaw" (90 : Nat) ({ cls := "FarthestHeir", name := "beyond", desc := "(II)I" } : Jvm.MethodName) ∈ rx_tbl := rx_mem6 58 (by decide +kernel) (by decide +kernel)
theorem rl_w1259 : Jvm.Cond.instanceMethod ({ cls := "FarthestHeir", name := "beyond", desc := "(II)I" } : Jvm.MethodName) ∈ rx_tbl := rx_mem6 59 (by decide +kernel) (by decide +kernel)
theorem rl_w1260 : Jvm.Cond.selects "FarthestHeir" ({ cls := "FarthestHeir", name := "beyond", desc := "(II)I" } : Jvm.MethodName) ({ cls := "FarthestHeir", name := "beyond", desc := "(II)I" } : Jvm.MethodName) ∈ rx_tbl := rx_mem6 60 (by decide +kernel) (by decide +kernel)
theorem rl_w1262 : Jvm.Cond.methodLink "FarthestHeirLaw" (226 : Nat) ({ cls := "FarthestHeirLaw", name := "nearest", desc := "(LFarthestHeir;I[J)I" } : Jvm.MethodName) ∈ rx_tbl := rx_mem6 62 (by decide +kernel) (by decide +kernel)
theorem rl_w1263 : Jvm.Cond.static ({ cls := "FarthestHeirLaw", name := "nearest", desc := "(LFarthestHeir;I[J)I" } : Jvm.MethodName) ∈ rx_tbl := rx_mem6 63 (by decide +kernel) (by decide +kernel)
theorem rl_w1264 : Jvm.Cond.codeWith ({ cls := "FarthestHeirLaw", name := "nearest", desc := "(LFarthestHeir;I[J)I" } : Jvm.MethodName) method_28_code (4 : Nat) (Option.some Jvm.ClassFile.FieldType.int) [((0 : Nat), (9 : Nat), (12 : Nat), (13 : Nat))] ∈ rx_tbl := rx_mem6 64 (by rfl) (by decide +kernel)
theorem rl_w1265 : Jvm.Cond.methodLink "FarthestHeirLaw" (93 : Nat) ({ cls := "FarthestHeir", name := "nearest", desc := "(I)I" } : Jvm.MethodName) ∈ rx_tbl := rx_mem6 65 (by decide +kernel) (by decide +kernel)
theorem rl_w1266 : Jvm.Cond.instanceMethod ({ cls := "FarthestHeir", name := "nearest", desc := "(I)I" } : Jvm.MethodName) ∈ rx_tbl := rx_mem6 66 (by decide +kernel) (by decide +kernel)
theorem rl_w1267 : Jvm.Cond.selects "FarthestHeir" ({ cls := "FarthestHeir", name := "nearest", desc := "(I)I" } : Jvm.MethodName) ({ cls := "FarthestHeir", name := "nearest", desc := "(I)I" } : Jvm.MethodName) ∈ rx_tbl := rx_mem6 67 (by decide +kernel) (by decide +kernel)
theorem rl_w1269 : Jvm.Cond.methodLink "FarthestHeirLaw" (229 : Nat) ({ cls := "FarthestHeirLaw", name := "spread", desc := "(LFarthestHeir;II[J)I" } : Jvm.MethodName) ∈ rx_tbl := rx_mem6 69 (by decide +kernel) (by decide +kernel)
theorem rl_w1270 : Jvm.Cond.static ({ cls := "FarthestHeirLaw", name := "spread", desc := "(LFarthestHeir;II[J)I" } : Jvm.MethodName) ∈ rx_tbl := rx_mem6 70 (by decide +kernel) (by decide +kernel)
theorem rl_w1271 : Jvm.Cond.codeWith ({ cls := "FarthestHeirLaw", name := "spread", desc := "(LFarthestHeir;II[J)I" } : Jvm.MethodName) method_29_code (5 : Nat) (Option.some Jvm.ClassFile.FieldType.int) [((0 : Nat), (10 : Nat), (13 : Nat), (13 : Nat))] ∈ rx_tbl := rx_mem6 71 (by rfl) (by decide +kernel)
theorem rl_w1272 : Jvm.Cond.methodLink "FarthestHeirLaw" (96 : Nat) ({ cls := "FarthestHeir", name := "spread", desc := "(II)I" } : Jvm.MethodName) ∈ rx_tbl := rx_mem6 72 (by decide +kernel) (by decide +kernel)
theorem rl_w1273 : Jvm.Cond.instanceMethod ({ cls := "FarthestHeir", name := "spread", desc := "(II)I" } : Jvm.MethodName) ∈ rx_tbl := rx_mem6 73 (by decide +kernel) (by decide +kernel)
theorem rl_w1274 : Jvm.Cond.selects "FarthestHeir" ({ cls := "FarthestHeir", name := "spread", desc := "(II)I" } : Jvm.MethodName) ({ cls := "FarthestHeir", name := "spread", desc := "(II)I" } : Jvm.MethodName) ∈ rx_tbl := rx_mem6 74 (by decide +kernel) (by decide +kernel)
theorem rl_w1277 : Jvm.Cond.methodLink "FarthestHeirLaw" (232 : Nat) ({ cls := "FarthestHeirLaw", name := "masks", desc := "(LFarthestHeir;I[J)I" } : Jvm.MethodName) ∈ rx_tbl := rx_mem6 77 (by decide +kernel) (by decide +kernel)
theorem rl_w1278 : Jvm.Cond.static ({ cls := "FarthestHeirLaw", name := "masks", desc := "(LFarthestHeir;I[J)I" } : Jvm.MethodName) ∈ rx_tbl := rx_mem6 78 (by decide +kernel) (by decide +kernel)
theorem rl_w1279 : Jvm.Cond.codeWith ({ cls := "FarthestHeirLaw", name := "masks", desc := "(LFarthestHeir;I[J)I" } : Jvm.MethodName) method_30_code (4 : Nat) (Option.some Jvm.ClassFile.FieldType.int) [((0 : Nat), (9 : Nat), (12 : Nat), (31 : Nat))] ∈ rx_tbl := rx_mem6 79 (by rfl) (by decide +kernel)
theorem rl_w1280 : Jvm.Cond.methodLink "FarthestHeirLaw" (99 : Nat) ({ cls := "FarthestHeir", name := "masks", desc := "(I)I" } : Jvm.MethodName) ∈ rx_tbl := rx_mem6 80 (by decide +kernel) (by decide +kernel)
theorem rl_w1281 : Jvm.Cond.instanceMethod ({ cls := "FarthestHeir", name := "masks", desc := "(I)I" } : Jvm.MethodName) ∈ rx_tbl := rx_mem6 81 (by decide +kernel) (by decide +kernel)
theorem rl_w1282 : Jvm.Cond.selects "FarthestHeir" ({ cls := "FarthestHeir", name := "masks", desc := "(I)I" } : Jvm.MethodName) ({ cls := "FarthestHeir", name := "masks", desc := "(I)I" } : Jvm.MethodName) ∈ rx_tbl := rx_mem6 82 (by decide +kernel) (by decide +kernel)
theorem rl_w1285 : Jvm.Cond.methodLink "FarthestHeirLaw" (235 : Nat) ({ cls := "FarthestHeirLaw", name := "rank", desc := "(LFarthestHeir;I[J)I" } : Jvm.MethodName) ∈ rx_tbl := rx_mem6 85 (by decide +kernel) (by decide +kernel)
theorem rl_w1286 : Jvm.Cond.static ({ cls := "FarthestHeirLaw", name := "rank", desc := "(LFarthestHeir;I[J)I" } : Jvm.MethodName) ∈ rx_tbl := rx_mem6 86 (by decide +kernel) (by decide +kernel)
theorem rl_w1287 : Jvm.Cond.codeWith ({ cls := "FarthestHeirLaw", name := "rank", desc := "(LFarthestHeir;I[J)I" } : Jvm.MethodName) method_31_code (4 : Nat) (Option.some Jvm.ClassFile.FieldType.int) [((0 : Nat), (9 : Nat), (12 : Nat), (13 : Nat))] ∈ rx_tbl := rx_mem6 87 (by rfl) (by decide +kernel)
theorem rl_w1288 : Jvm.Cond.methodLink "FarthestHeirLaw" (102 : Nat) ({ cls := "FarthestHeir", name := "rank", desc := "(I)I" } : Jvm.MethodName) ∈ rx_tbl := rx_mem6 88 (by decide +kernel) (by decide +kernel)
theorem rl_w1289 : Jvm.Cond.instanceMethod ({ cls := "FarthestHeir", name := "rank", desc := "(I)I" } : Jvm.MethodName) ∈ rx_tbl := rx_mem6 89 (by decide +kernel) (by decide +kernel)
theorem rl_w1290 : Jvm.Cond.selects "FarthestHeir" ({ cls := "FarthestHeir", name := "rank", desc := "(I)I" } : Jvm.MethodName) ({ cls := "FarthestHeir", name := "rank", desc := "(I)I" } : Jvm.MethodName) ∈ rx_tbl := rx_mem6 90 (by decide +kernel) (by decide +kernel)
theorem rl_w1296 : Jvm.Cond.methodLink "FarthestHeirLaw" (238 : Nat) ({ cls := "FarthestHeirLaw", name := "mild", desc := "(LFarthestHeir;I[J)I" } : Jvm.MethodName) ∈ rx_tbl := rx_mem6 96 (by decide +kernel) (by decide +kernel)
theorem rl_w1297 : Jvm.Cond.static ({ cls := "FarthestHeirLaw", name := "mild", desc := "(LFarthestHeir;I[J)I" } : Jvm.MethodName) ∈ rx_tbl := rx_mem6 97 (by decide +kernel) (by decide +kernel)
theorem rl_w1298 : Jvm.Cond.codeWith ({ cls := "FarthestHeirLaw", name := "mild", desc := "(LFarthestHeir;I[J)I" } : Jvm.MethodName) method_32_code (4 : Nat) (Option.some Jvm.ClassFile.FieldType.int) [((0 : Nat), (9 : Nat), (12 : Nat), (13 : Nat))] ∈ rx_tbl := rx_mem6 98 (by rfl) (by decide +kernel)
theorem rl_w1299 : Jvm.Cond.methodLink "FarthestHeirLaw" (105 : Nat) ({ cls := "FarthestHeir", name := "mild", desc := "(I)I" } : Jvm.MethodName) ∈ rx_tbl := rx_mem6 99 (by decide +kernel) (by decide +kernel)
theorem rl_w1300 : Jvm.Cond.instanceMethod ({ cls := "FarthestHeir", name := "mild", desc := "(I)I" } : Jvm.MethodName) ∈ rx_tbl := rx_mem6 100 (by decide +kernel) (by decide +kernel)
theorem rl_w1301 : Jvm.Cond.selects "FarthestHeir" ({ cls := "FarthestHeir", name := "mild", desc := "(I)I" } : Jvm.MethodName) ({ cls := "FarthestHeir", name := "mild", desc := "(I)I" } : Jvm.MethodName) ∈ rx_tbl := rx_mem6 101 (by decide +kernel) (by decide +kernel)
theorem rl_w1307 : Jvm.Cond.methodLink "FarthestHeirLaw" (241 : Nat) ({ cls := "FarthestHeirLaw", name := "unlike", desc := "(LFarthestHeir;I[J)I" } : Jvm.MethodName) ∈ rx_tbl := rx_mem6 107 (by decide +kernel) (by decide +kernel)
theorem rl_w1308 : Jvm.Cond.static ({ cls := "FarthestHeirLaw", name := "unlike", desc := "(LFarthestHeir;I[J)I" } : Jvm.MethodName) ∈ rx_tbl := rx_mem6 108 (by decide +kernel) (by decide +kernel)
theorem rl_w1309 : Jvm.Cond.codeWith ({ cls := "FarthestHeirLaw", name := "unlike", desc := "(LFarthestHeir;I[J)I" } : Jvm.MethodName) method_33_code (4 : Nat) (Option.some Jvm.ClassFile.FieldType.int) [((0 : Nat), (9 : Nat), (12 : Nat), (31 : Nat))] ∈ rx_tbl := rx_mem6 109 (by rfl) (by decide +kernel)
theorem rl_w1310 : Jvm.Cond.methodLink "FarthestHeirLaw" (108 : Nat) ({ cls := "FarthestHeir", name := "unlike", desc := "(I)I" } : Jvm.MethodName) ∈ rx_tbl := rx_mem6 110 (by decide +kernel) (by decide +kernel)
theorem rl_w1311 : Jvm.Cond.instanceMethod ({ cls := "FarthestHeir", name := "unlike", desc := "(I)I" } : Jvm.MethodName) ∈ rx_tbl := rx_mem6 111 (by decide +kernel) (by decide +kernel)
theorem rl_w1312 : Jvm.Cond.selects "FarthestHeir" ({ cls := "FarthestHeir", name := "unlike", desc := "(I)I" } : Jvm.MethodName) ({ cls := "FarthestHeir", name := "unlike", desc := "(I)I" } : Jvm.MethodName) ∈ rx_tbl := rx_mem6 112 (by decide +kernel) (by decide +kernel)
theorem rl_w1314 : Jvm.Cond.methodLink "FarthestHeirLaw" (244 : Nat) ({ cls := "FarthestHeirLaw", name := "century", desc := "(LFarthestHeir;IIII[J)I" } : Jvm.MethodName) ∈ rx_tbl := rx_mem6 114 (by decide +kernel) (by decide +kernel)
theorem rl_w1315 : Jvm.Cond.static ({ cls := "FarthestHeirLaw", name := "century", desc := "(LFarthestHeir;IIII[J)I" } : Jvm.MethodName) ∈ rx_tbl := rx_mem6 115 (by decide +kernel) (by decide +kernel)
theorem rl_w1316 : Jvm.Cond.codeWith ({ cls := "FarthestHeirLaw", name := "century", desc := "(LFarthestHeir;IIII[J)I" } : Jvm.MethodName) method_34_code (7 : Nat) (Option.some Jvm.ClassFile.FieldType.int) [((0 : Nat), (14 : Nat), (17 : Nat), (13 : Nat))] ∈ rx_tbl := rx_mem6 116 (by rfl) (by decide +kernel)
theorem rl_w1317 : Jvm.Cond.methodLink "FarthestHeirLaw" (111 : Nat) ({ cls := "FarthestHeir", name := "century", desc := "(IIII)I" } : Jvm.MethodName) ∈ rx_tbl := rx_mem6 117 (by decide +kernel) (by decide +kernel)
theorem rl_w1318 : Jvm.Cond.instanceMethod ({ cls := "FarthestHeir", name := "century", desc := "(IIII)I" } : Jvm.MethodName) ∈ rx_tbl := rx_mem6 118 (by decide +kernel) (by decide +kernel)
theorem rl_w1319 : Jvm.Cond.selects "FarthestHeir" ({ cls := "FarthestHeir", name := "century", desc := "(IIII)I" } : Jvm.MethodName) ({ cls := "FarthestHeir", name := "century", desc := "(IIII)I" } : Jvm.MethodName) ∈ rx_tbl := rx_mem6 119 (by decide +kernel) (by decide +kernel)
theorem rl_w1333 : Jvm.Cond.methodLink "FarthestHeirLaw" (247 : Nat) ({ cls := "FarthestHeirLaw", name := "span", desc := "(LFarthestHeir;IIIIII[J)I" } : Jvm.MethodName) ∈ rx_tbl := rx_mem6 133 (by decide +kernel) (by decide +kernel)
theorem rl_w1334 : Jvm.Cond.static ({ cls := "FarthestHeirLaw", name := "span", desc := "(LFarthestHeir;IIIIII[J)I" } : Jvm.MethodName) ∈ rx_tbl := rx_mem6 134 (by decide +kernel) (by decide +kernel)
theorem rl_w1335 : Jvm.Cond.codeWith ({ cls := "FarthestHeirLaw", name := "span", desc := "(LFarthestHeir;IIIIII[J)I" } : Jvm.MethodName) method_35_code (9 : Nat) (Option.some Jvm.ClassFile.FieldType.int) [((0 : Nat), (18 : Nat), (21 : Nat), (13 : Nat))] ∈ rx_tbl := rx_mem6 135 (by rfl) (by decide +kernel)
theorem rl_w1336 : Jvm.Cond.methodLink "FarthestHeirLaw" (115 : Nat) ({ cls := "FarthestHeir", name := "span", desc := "(IIIIII)I" } : Jvm.MethodName) ∈ rx_tbl := rx_mem6 136 (by decide +kernel) (by decide +kernel)
theorem rl_w1337 : Jvm.Cond.instanceMethod ({ cls := "FarthestHeir", name := "span", desc := "(IIIIII)I" } : Jvm.MethodName) ∈ rx_tbl := rx_mem6 137 (by decide +kernel) (by decide +kernel)
theorem rl_w1338 : Jvm.Cond.selects "FarthestHeir" ({ cls := "FarthestHeir", name := "span", desc := "(IIIIII)I" } : Jvm.MethodName) ({ cls := "FarthestHeir", name := "span", desc := "(IIIIII)I" } : Jvm.MethodName) ∈ rx_tbl := rx_mem6 138 (by decide +kernel) (by decide +kernel)
theorem rl_w1340 : Jvm.Cond.classLink "FarthestHeirLaw" (120 : Nat) "FarthestHeirModel" ∈ rx_tbl := rx_mem6 140 (by decide +kernel) (by decide +kernel)
theorem rl_w1341 : Jvm.Cond.instantiable "FarthestHeirModel" (45 : Nat) ∈ rx_tbl := rx_mem6 141 (by decide +kernel) (by decide +kernel)
theorem rl_w1342 : Jvm.Cond.methodLink "FarthestHeirLaw" (122 : Nat) ({ cls := "FarthestHeirModel", name := "<init>", desc := "()V" } : Jvm.MethodName) ∈ rx_tbl := rx_mem6 142 (by decide +kernel) (by decide +kernel)
theorem rl_w1343 : Jvm.Cond.instanceMethod ({ cls := "FarthestHeirModel", name := "<init>", desc := "()V" } : Jvm.MethodName) ∈ rx_tbl := rx_mem6 143 (by decide +kernel) (by decide +kernel)
theorem rl_w1496 : Jvm.Cond.methodLink "FarthestHeirLaw" (134 : Nat) ({ cls := "FarthestHeirModel", name := "thrown", desc := "()I" } : Jvm.MethodName) ∈ rx_tbl := rx_mem7 56 (by decide +kernel) (by decide +kernel)
theorem rl_w1497 : Jvm.Cond.instanceMethod ({ cls := "FarthestHeirModel", name := "thrown", desc := "()I" } : Jvm.MethodName) ∈ rx_tbl := rx_mem7 57 (by decide +kernel) (by decide +kernel)
theorem rl_w1498 : Jvm.Cond.selects "FarthestHeirModel" ({ cls := "FarthestHeirModel", name := "thrown", desc := "()I" } : Jvm.MethodName) ({ cls := "FarthestHeirModel", name := "thrown", desc := "()I" } : Jvm.MethodName) ∈ rx_tbl := rx_mem7 58 (by decide +kernel) (by decide +kernel)
theorem rl_w1500 : Jvm.Cond.methodLink "FarthestHeirLaw" (127 : Nat) ({ cls := "FarthestHeirModel", name := "feed", desc := "(IIIII)I" } : Jvm.MethodName) ∈ rx_tbl := rx_mem7 60 (by decide +kernel) (by decide +kernel)
theorem rl_w1501 : Jvm.Cond.instanceMethod ({ cls := "FarthestHeirModel", name := "feed", desc := "(IIIII)I" } : Jvm.MethodName) ∈ rx_tbl := rx_mem7 61 (by decide +kernel) (by decide +kernel)
theorem rl_w1502 : Jvm.Cond.selects "FarthestHeirModel" ({ cls := "FarthestHeirModel", name := "feed", desc := "(IIIII)I" } : Jvm.MethodName) ({ cls := "FarthestHeirModel", name := "feed", desc := "(IIIII)I" } : Jvm.MethodName) ∈ rx_tbl := rx_mem7 62 (by decide +kernel) (by decide +kernel)
theorem rl_w1504 : Jvm.Cond.methodLink "FarthestHeirLaw" (133 : Nat) ({ cls := "FarthestHeirModel", name := "dukedom", desc := "(I)I" } : Jvm.MethodName) ∈ rx_tbl := rx_mem7 64 (by decide +kernel) (by decide +kernel)
theorem rl_w1505 : Jvm.Cond.instanceMethod ({ cls := "FarthestHeirModel", name := "dukedom", desc := "(I)I" } : Jvm.MethodName) ∈ rx_tbl := rx_mem7 65 (by decide +kernel) (by decide +kernel)
theorem rl_w1506 : Jvm.Cond.selects "FarthestHeirModel" ({ cls := "FarthestHeirModel", name := "dukedom", desc := "(I)I" } : Jvm.MethodName) ({ cls := "FarthestHeirModel", name := "dukedom", desc := "(I)I" } : Jvm.MethodName) ∈ rx_tbl := rx_mem7 66 (by decide +kernel) (by decide +kernel)
theorem rl_w1573 : Jvm.Cond.methodLink "FarthestHeirLaw" (140 : Nat) ({ cls := "FarthestHeirModel", name := "law", desc := "(I)I" } : Jvm.MethodName) ∈ rx_tbl := rx_mem7 133 (by decide +kernel) (by decide +kernel)
theorem rl_w1574 : Jvm.Cond.instanceMethod ({ cls := "FarthestHeirModel", name := "law", desc := "(I)I" } : Jvm.MethodName) ∈ rx_tbl := rx_mem7 134 (by decide +kernel) (by decide +kernel)
theorem rl_w1575 : Jvm.Cond.selects "FarthestHeirModel" ({ cls := "FarthestHeirModel", name := "law", desc := "(I)I" } : Jvm.MethodName) ({ cls := "FarthestHeirModel", name := "law", desc := "(I)I" } : Jvm.MethodName) ∈ rx_tbl := rx_mem7 135 (by decide +kernel) (by decide +kernel)
theorem rl_w1609 : Jvm.Cond.methodLink "FarthestHeirLaw" (146 : Nat) ({ cls := "FarthestHeirModel", name := "book", desc := "(I)I" } : Jvm.MethodName) ∈ rx_tbl := rx_mem7 169 (by decide +kernel) (by decide +kernel)
theorem rl_w1610 : Jvm.Cond.instanceMethod ({ cls := "FarthestHeirModel", name := "book", desc := "(I)I" } : Jvm.MethodName) ∈ rx_tbl := rx_mem7 170 (by decide +kernel) (by decide +kernel)
theorem rl_w1611 : Jvm.Cond.selects "FarthestHeirModel" ({ cls := "FarthestHeirModel", name := "book", desc := "(I)I" } : Jvm.MethodName) ({ cls := "FarthestHeirModel", name := "book", desc := "(I)I" } : Jvm.MethodName) ∈ rx_tbl := rx_mem7 171 (by decide +kernel) (by decide +kernel)
theorem rl_w1616 : Jvm.Cond.methodLink "FarthestHeirLaw" (150 : Nat) ({ cls := "FarthestHeirModel", name := "fault", desc := "()I" } : Jvm.MethodName) ∈ rx_tbl := rx_mem7 176 (by decide +kernel) (by decide +kernel)
theorem rl_w1617 : Jvm.Cond.instanceMethod ({ cls := "FarthestHeirModel", name := "fault", desc := "()I" } : Jvm.MethodName) ∈ rx_tbl := rx_mem7 177 (by decide +kernel) (by decide +kernel)
theorem rl_w1618 : Jvm.Cond.selects "FarthestHeirModel" ({ cls := "FarthestHeirModel", name := "fault", desc := "()I" } : Jvm.MethodName) ({ cls := "FarthestHeirModel", name := "fault", desc := "()I" } : Jvm.MethodName) ∈ rx_tbl := rx_mem7 178 (by decide +kernel) (by decide +kernel)
theorem rl_w1620 : Jvm.Cond.methodLink "FarthestHeirLaw" (143 : Nat) ({ cls := "FarthestHeirModel", name := "work", desc := "(I)I" } : Jvm.MethodName) ∈ rx_tbl := rx_mem7 180 (by decide +kernel) (by decide +kernel)
theorem rl_w1621 : Jvm.Cond.instanceMethod ({ cls := "FarthestHeirModel", name := "work", desc := "(I)I" } : Jvm.MethodName) ∈ rx_tbl := rx_mem7 181 (by decide +kernel) (by decide +kernel)
theorem rl_w1622 : Jvm.Cond.selects "FarthestHeirModel" ({ cls := "FarthestHeirModel", name := "work", desc := "(I)I" } : Jvm.MethodName) ({ cls := "FarthestHeirModel", name := "work", desc := "(I)I" } : Jvm.MethodName) ∈ rx_tbl := rx_mem7 182 (by decide +kernel) (by decide +kernel)
theorem rl_w1711 : Jvm.Cond.methodLink "FarthestHeirLaw" (154 : Nat) ({ cls := "FarthestHeirModel", name := "undo", desc := "()I" } : Jvm.MethodName) ∈ rx_tbl := rx_mem8 31 (by decide +kernel) (by decide +kernel)
theorem rl_w1712 : Jvm.Cond.instanceMethod ({ cls := "FarthestHeirModel", name := "undo", desc := "()I" } : Jvm.MethodName) ∈ rx_tbl := rx_mem8 32 (by decide +kernel) (by decide +kernel)
theorem rl_w1713 : Jvm.Cond.selects "FarthestHeirModel" ({ cls := "FarthestHeirModel", name := "undo", desc := "()I" } : Jvm.MethodName) ({ cls := "FarthestHeirModel", name := "undo", desc := "()I" } : Jvm.MethodName) ∈ rx_tbl := rx_mem8 33 (by decide +kernel) (by decide +kernel)
theorem rl_w1715 : Jvm.Cond.methodLink "FarthestHeirLaw" (157 : Nat) ({ cls := "FarthestHeirModel", name := "told", desc := "(I)I" } : Jvm.MethodName) ∈ rx_tbl := rx_mem8 35 (by decide +kernel) (by decide +kernel)
theorem rl_w1716 : Jvm.Cond.instanceMethod ({ cls := "FarthestHeirModel", name := "told", desc := "(I)I" } : Jvm.MethodName) ∈ rx_tbl := rx_mem8 36 (by decide +kernel) (by decide +kernel)
theorem rl_w1717 : Jvm.Cond.selects "FarthestHeirModel" ({ cls := "FarthestHeirModel", name := "told", desc := "(I)I" } : Jvm.MethodName) ({ cls := "FarthestHeirModel", name := "told", desc := "(I)I" } : Jvm.MethodName) ∈ rx_tbl := rx_mem8 37 (by decide +kernel) (by decide +kernel)
theorem rl_w1719 : Jvm.Cond.methodLink "FarthestHeirLaw" (161 : Nat) ({ cls := "FarthestHeirModel", name := "person", desc := "(II)I" } : Jvm.MethodName) ∈ rx_tbl := rx_mem8 39 (by decide +kernel) (by decide +kernel)
theorem rl_w1720 : Jvm.Cond.instanceMethod ({ cls := "FarthestHeirModel", name := "person", desc := "(II)I" } : Jvm.MethodName) ∈ rx_tbl := rx_mem8 40 (by decide +kernel) (by decide +kernel)
theorem rl_w1721 : Jvm.Cond.selects "FarthestHeirModel" ({ cls := "FarthestHeirModel", name := "person", desc := "(II)I" } : Jvm.MethodName) ({ cls := "FarthestHeirModel", name := "person", desc := "(II)I" } : Jvm.MethodName) ∈ rx_tbl := rx_mem8 41 (by decide +kernel) (by decide +kernel)
theorem rl_w1731 : Jvm.Cond.methodLink "FarthestHeirLaw" (164 : Nat) ({ cls := "FarthestHeirModel", name := "far", desc := "(II)I" } : Jvm.MethodName) ∈ rx_tbl := rx_mem8 51 (by decide +kernel) (by decide +kernel)
theorem rl_w1732 : Jvm.Cond.instanceMethod ({ cls := "FarthestHeirModel", name := "far", desc := "(II)I" } : Jvm.MethodName) ∈ rx_tbl := rx_mem8 52 (by decide +kernel) (by decide +kernel)
theorem rl_w1733 : Jvm.Cond.selects "FarthestHeirModel" ({ cls := "FarthestHeirModel", name := "far", desc := "(II)I" } : Jvm.MethodName) ({ cls := "FarthestHeirModel", name := "far", desc := "(II)I" } : Jvm.MethodName) ∈ rx_tbl := rx_mem8 53 (by decide +kernel) (by decide +kernel)
theorem rl_w1735 : Jvm.Cond.methodLink "FarthestHeirLaw" (168 : Nat) ({ cls := "FarthestHeirModel", name := "would", desc := "(IIIIIIII)I" } : Jvm.MethodName) ∈ rx_tbl := rx_mem8 55 (by decide +kernel) (by decide +kernel)
theorem rl_w1736 : Jvm.Cond.instanceMethod ({ cls := "FarthestHeirModel", name := "would", desc := "(IIIIIIII)I" } : Jvm.MethodName) ∈ rx_tbl := rx_mem8 56 (by decide +kernel) (by decide +kernel)
theorem rl_w1737 : Jvm.Cond.selects "FarthestHeirModel" ({ cls := "FarthestHeirModel", name := "would", desc := "(IIIIIIII)I" } : Jvm.MethodName) ({ cls := "FarthestHeirModel", name := "would", desc := "(IIIIIIII)I" } : Jvm.MethodName) ∈ rx_tbl := rx_mem8 57 (by decide +kernel) (by decide +kernel)
theorem rl_w1739 : Jvm.Cond.methodLink "FarthestHeirLaw" (171 : Nat) ({ cls := "FarthestHeirModel", name := "ahead", desc := "(II)I" } : Jvm.MethodName) ∈ rx_tbl := rx_mem8 59 (by decide +kernel) (by decide +kernel)
theorem rl_w1740 : Jvm.Cond.instanceMethod ({ cls := "FarthestHeirModel", name := "ahead", desc := "(II)I" } : Jvm.MethodName) ∈ rx_tbl := rx_mem8 60 (by decide +kernel) (by decide +kernel)
theorem rl_w1741 : Jvm.Cond.selects "FarthestHeirModel" ({ cls := "FarthestHeirModel", name := "ahead", desc := "(II)I" } : Jvm.MethodName) ({ cls := "FarthestHeirModel", name := "ahead", desc := "(II)I" } : Jvm.MethodName) ∈ rx_tbl := rx_mem8 61 (by decide +kernel) (by decide +kernel)
theorem rl_w1743 : Jvm.Cond.methodLink "FarthestHeirLaw" (174 : Nat) ({ cls := "FarthestHeirModel", name := "after", desc := "(I)I" } : Jvm.MethodName) ∈ rx_tbl := rx_mem8 63 (by decide +kernel) (by decide +kernel)
theorem rl_w1744 : Jvm.Cond.instanceMethod ({ cls := "FarthestHeirModel", name := "after", desc := "(I)I" } : Jvm.MethodName) ∈ rx_tbl := rx_mem8 64 (by decide +kernel) (by decide +kernel)
theorem rl_w1745 : Jvm.Cond.selects "FarthestHeirModel" ({ cls := "FarthestHeirModel", name := "after", desc := "(I)I" } : Jvm.MethodName) ({ cls := "FarthestHeirModel", name := "after", desc := "(I)I" } : Jvm.MethodName) ∈ rx_tbl := rx_mem8 65 (by decide +kernel) (by decide +kernel)
theorem rl_w1747 : Jvm.Cond.methodLink "FarthestHeirLaw" (177 : Nat) ({ cls := "FarthestHeirModel", name := "feint", desc := "(II)I" } : Jvm.MethodName) ∈ rx_tbl := rx_mem8 67 (by decide +kernel) (by decide +kernel)
theorem rl_w1748 : Jvm.Cond.instanceMethod ({ cls := "FarthestHeirModel", name := "feint", desc := "(II)I" } : Jvm.MethodName) ∈ rx_tbl := rx_mem8 68 (by decide +kernel) (by decide +kernel)
theorem rl_w1749 : Jvm.Cond.selects "FarthestHeirModel" ({ cls := "FarthestHeirModel", name := "feint", desc := "(II)I" } : Jvm.MethodName) ({ cls := "FarthestHeirModel", name := "feint", desc := "(II)I" } : Jvm.MethodName) ∈ rx_tbl := rx_mem8 69 (by decide +kernel) (by decide +kernel)
theorem rl_w1755 : Jvm.Cond.methodLink "FarthestHeirLaw" (180 : Nat) ({ cls := "FarthestHeirModel", name := "ring", desc := "(II)I" } : Jvm.MethodName) ∈ rx_tbl := rx_mem8 75 (by decide +kernel) (by decide +kernel)
theorem rl_w1756 : Jvm.Cond.instanceMethod ({ cls := "FarthestHeirModel", name := "ring", desc := "(II)I" } : Jvm.MethodName) ∈ rx_tbl := rx_mem8 76 (by decide +kernel) (by decide +kernel)
theorem rl_w1757 : Jvm.Cond.selects "FarthestHeirModel" ({ cls := "FarthestHeirModel", name := "ring", desc := "(II)I" } : Jvm.MethodName) ({ cls := "FarthestHeirModel", name := "ring", desc := "(II)I" } : Jvm.MethodName) ∈ rx_tbl := rx_mem8 77 (by decide +kernel) (by decide +kernel)
theorem rl_w1762 : Jvm.Cond.methodLink "FarthestHeirLaw" (183 : Nat) ({ cls := "FarthestHeirModel", name := "like", desc := "(I)I" } : Jvm.MethodName) ∈ rx_tbl := rx_mem8 82 (by decide +kernel) (by decide +kernel)
theorem rl_w1763 : Jvm.Cond.instanceMethod ({ cls := "FarthestHeirModel", name := "like", desc := "(I)I" } : Jvm.MethodName) ∈ rx_tbl := rx_mem8 83 (by decide +kernel) (by decide +kernel)
theorem rl_w1764 : Jvm.Cond.selects "FarthestHeirModel" ({ cls := "FarthestHeirModel", name := "like", desc := "(I)I" } : Jvm.MethodName) ({ cls := "FarthestHeirModel", name := "like", desc := "(I)I" } : Jvm.MethodName) ∈ rx_tbl := rx_mem8 84 (by decide +kernel) (by decide +kernel)
theorem rl_w1770 : Jvm.Cond.methodLink "FarthestHeirLaw" (186 : Nat) ({ cls := "FarthestHeirModel", name := "ask", desc := "(I)I" } : Jvm.MethodName) ∈ rx_tbl := rx_mem8 90 (by decide +kernel) (by decide +kernel)
theorem rl_w1771 : Jvm.Cond.instanceMethod ({ cls := "FarthestHeirModel", name := "ask", desc := "(I)I" } : Jvm.MethodName) ∈ rx_tbl := rx_mem8 91 (by decide +kernel) (by decide +kernel)
theorem rl_w1772 : Jvm.Cond.selects "FarthestHeirModel" ({ cls := "FarthestHeirModel", name := "ask", desc := "(I)I" } : Jvm.MethodName) ({ cls := "FarthestHeirModel", name := "ask", desc := "(I)I" } : Jvm.MethodName) ∈ rx_tbl := rx_mem8 92 (by decide +kernel) (by decide +kernel)
theorem rl_w1782 : Jvm.Cond.methodLink "FarthestHeirLaw" (190 : Nat) ({ cls := "FarthestHeirModel", name := "pairs", desc := "()I" } : Jvm.MethodName) ∈ rx_tbl := rx_mem8 102 (by decide +kernel) (by decide +kernel)
theorem rl_w1783 : Jvm.Cond.instanceMethod ({ cls := "FarthestHeirModel", name := "pairs", desc := "()I" } : Jvm.MethodName) ∈ rx_tbl := rx_mem8 103 (by decide +kernel) (by decide +kernel)
theorem rl_w1784 : Jvm.Cond.selects "FarthestHeirModel" ({ cls := "FarthestHeirModel", name := "pairs", desc := "()I" } : Jvm.MethodName) ({ cls := "FarthestHeirModel", name := "pairs", desc := "()I" } : Jvm.MethodName) ∈ rx_tbl := rx_mem8 104 (by decide +kernel) (by decide +kernel)
theorem rl_w1794 : Jvm.Cond.methodLink "FarthestHeirLaw" (193 : Nat) ({ cls := "FarthestHeirModel", name := "mate", desc := "(I)I" } : Jvm.MethodName) ∈ rx_tbl := rx_mem8 114 (by decide +kernel) (by decide +kernel)
theorem rl_w1795 : Jvm.Cond.instanceMethod ({ cls := "FarthestHeirModel", name := "mate", desc := "(I)I" } : Jvm.MethodName) ∈ rx_tbl := rx_mem8 115 (by decide +kernel) (by decide +kernel)
theorem rl_w1796 : Jvm.Cond.selects "FarthestHeirModel" ({ cls := "FarthestHeirModel", name := "mate", desc := "(I)I" } : Jvm.MethodName) ({ cls := "FarthestHeirModel", name := "mate", desc := "(I)I" } : Jvm.MethodName) ∈ rx_tbl := rx_mem8 116 (by decide +kernel) (by decide +kernel)
theorem rl_w1798 : Jvm.Cond.methodLink "FarthestHeirLaw" (196 : Nat) ({ cls := "FarthestHeirModel", name := "row", desc := "(I)I" } : Jvm.MethodName) ∈ rx_tbl := rx_mem8 118 (by decide +kernel) (by decide +kernel)
theorem rl_w1799 : Jvm.Cond.instanceMethod ({ cls := "FarthestHeirModel", name := "row", desc := "(I)I" } : Jvm.MethodName) ∈ rx_tbl := rx_mem8 119 (by decide +kernel) (by decide +kernel)
theorem rl_w1800 : Jvm.Cond.selects "FarthestHeirModel" ({ cls := "FarthestHeirModel", name := "row", desc := "(I)I" } : Jvm.MethodName) ({ cls := "FarthestHeirModel", name := "row", desc := "(I)I" } : Jvm.MethodName) ∈ rx_tbl := rx_mem8 120 (by decide +kernel) (by decide +kernel)
theorem rl_w1810 : Jvm.Cond.methodLink "FarthestHeirLaw" (199 : Nat) ({ cls := "FarthestHeirModel", name := "rowed", desc := "(II)I" } : Jvm.MethodName) ∈ rx_tbl := rx_mem8 130 (by decide +kernel) (by decide +kernel)
theorem rl_w1811 : Jvm.Cond.instanceMethod ({ cls := "FarthestHeirModel", name := "rowed", desc := "(II)I" } : Jvm.MethodName) ∈ rx_tbl := rx_mem8 131 (by decide +kernel) (by decide +kernel)
theorem rl_w1812 : Jvm.Cond.selects "FarthestHeirModel" ({ cls := "FarthestHeirModel", name := "rowed", desc := "(II)I" } : Jvm.MethodName) ({ cls := "FarthestHeirModel", name := "rowed", desc := "(II)I" } : Jvm.MethodName) ∈ rx_tbl := rx_mem8 132 (by decide +kernel) (by decide +kernel)
theorem rl_w1814 : Jvm.Cond.methodLink "FarthestHeirLaw" (202 : Nat) ({ cls := "FarthestHeirModel", name := "child", desc := "(I)I" } : Jvm.MethodName) ∈ rx_tbl := rx_mem8 134 (by decide +kernel) (by decide +kernel)
theorem rl_w1815 : Jvm.Cond.instanceMethod ({ cls := "FarthestHeirModel", name := "child", desc := "(I)I" } : Jvm.MethodName) ∈ rx_tbl := rx_mem8 135 (by decide +kernel) (by decide +kernel)
theorem rl_w1816 : Jvm.Cond.selects "FarthestHeirModel" ({ cls := "FarthestHeirModel", name := "child", desc := "(I)I" } : Jvm.MethodName) ({ cls := "FarthestHeirModel", name := "child", desc := "(I)I" } : Jvm.MethodName) ∈ rx_tbl := rx_mem8 136 (by decide +kernel) (by decide +kernel)
theorem rl_w1818 : Jvm.Cond.methodLink "FarthestHeirLaw" (205 : Nat) ({ cls := "FarthestHeirModel", name := "middling", desc := "(I)I" } : Jvm.MethodName) ∈ rx_tbl := rx_mem8 138 (by decide +kernel) (by decide +kernel)
theorem rl_w1819 : Jvm.Cond.instanceMethod ({ cls := "FarthestHeirModel", name := "middling", desc := "(I)I" } : Jvm.MethodName) ∈ rx_tbl := rx_mem8 139 (by decide +kernel) (by decide +kernel)
theorem rl_w1820 : Jvm.Cond.selects "FarthestHeirModel" ({ cls := "FarthestHeirModel", name := "middling", desc := "(I)I" } : Jvm.MethodName) ({ cls := "FarthestHeirModel", name := "middling", desc := "(I)I" } : Jvm.MethodName) ∈ rx_tbl := rx_mem8 140 (by decide +kernel) (by decide +kernel)
theorem rl_w1822 : Jvm.Cond.methodLink "FarthestHeirLaw" (209 : Nat) ({ cls := "FarthestHeirModel", name := "chance", desc := "(IIII)J" } : Jvm.MethodName) ∈ rx_tbl := rx_mem8 142 (by decide +kernel) (by decide +kernel)
theorem rl_w1823 : Jvm.Cond.instanceMethod ({ cls := "FarthestHeirModel", name := "chance", desc := "(IIII)J" } : Jvm.MethodName) ∈ rx_tbl := rx_mem8 143 (by decide +kernel) (by decide +kernel)
theorem rl_w1824 : Jvm.Cond.selects "FarthestHeirModel" ({ cls := "FarthestHeirModel", name := "chance", desc := "(IIII)J" } : Jvm.MethodName) ({ cls := "FarthestHeirModel", name := "chance", desc := "(IIII)J" } : Jvm.MethodName) ∈ rx_tbl := rx_mem8 144 (by decide +kernel) (by decide +kernel)
theorem rl_w1826 : Jvm.Cond.methodLink "FarthestHeirLaw" (213 : Nat) ({ cls := "FarthestHeirModel", name := "feigning", desc := "(III)I" } : Jvm.MethodName) ∈ rx_tbl := rx_mem8 146 (by decide +kernel) (by decide +kernel)
theorem rl_w1827 : Jvm.Cond.instanceMethod ({ cls := "FarthestHeirModel", name := "feigning", desc := "(III)I" } : Jvm.MethodName) ∈ rx_tbl := rx_mem8 147 (by decide +kernel) (by decide +kernel)
theorem rl_w1828 : Jvm.Cond.selects "FarthestHeirModel" ({ cls := "FarthestHeirModel", name := "feigning", desc := "(III)I" } : Jvm.MethodName) ({ cls := "FarthestHeirModel", name := "feigning", desc := "(III)I" } : Jvm.MethodName) ∈ rx_tbl := rx_mem8 148 (by decide +kernel) (by decide +kernel)
theorem rl_w1836 : Jvm.Cond.methodLink "FarthestHeirLaw" (216 : Nat) ({ cls := "FarthestHeirModel", name := "land", desc := "(III)I" } : Jvm.MethodName) ∈ rx_tbl := rx_mem8 156 (by decide +kernel) (by decide +kernel)
theorem rl_w1837 : Jvm.Cond.instanceMethod ({ cls := "FarthestHeirModel", name := "land", desc := "(III)I" } : Jvm.MethodName) ∈ rx_tbl := rx_mem8 157 (by decide +kernel) (by decide +kernel)
theorem rl_w1838 : Jvm.Cond.selects "FarthestHeirModel" ({ cls := "FarthestHeirModel", name := "land", desc := "(III)I" } : Jvm.MethodName) ({ cls := "FarthestHeirModel", name := "land", desc := "(III)I" } : Jvm.MethodName) ∈ rx_tbl := rx_mem8 158 (by decide +kernel) (by decide +kernel)
theorem rl_w1848 : Jvm.Cond.methodLink "FarthestHeirLaw" (219 : Nat) ({ cls := "FarthestHeirModel", name := "oldest", desc := "(I)I" } : Jvm.MethodName) ∈ rx_tbl := rx_mem8 168 (by decide +kernel) (by decide +kernel)
theorem rl_w1849 : Jvm.Cond.instanceMethod ({ cls := "FarthestHeirModel", name := "oldest", desc := "(I)I" } : Jvm.MethodName) ∈ rx_tbl := rx_mem8 169 (by decide +kernel) (by decide +kernel)
theorem rl_w1850 : Jvm.Cond.selects "FarthestHeirModel" ({ cls := "FarthestHeirModel", name := "oldest", desc := "(I)I" } : Jvm.MethodName) ({ cls := "FarthestHeirModel", name := "oldest", desc := "(I)I" } : Jvm.MethodName) ∈ rx_tbl := rx_mem8 170 (by decide +kernel) (by decide +kernel)
theorem rl_w1852 : Jvm.Cond.methodLink "FarthestHeirLaw" (222 : Nat) ({ cls := "FarthestHeirModel", name := "alike", desc := "(I)I" } : Jvm.MethodName) ∈ rx_tbl := rx_mem8 172 (by decide +kernel) (by decide +kernel)
theorem rl_w1853 : Jvm.Cond.instanceMethod ({ cls := "FarthestHeirModel", name := "alike", desc := "(I)I" } : Jvm.MethodName) ∈ rx_tbl := rx_mem8 173 (by decide +kernel) (by decide +kernel)
theorem rl_w1854 : Jvm.Cond.selects "FarthestHeirModel" ({ cls := "FarthestHeirModel", name := "alike", desc := "(I)I" } : Jvm.MethodName) ({ cls := "FarthestHeirModel", name := "alike", desc := "(I)I" } : Jvm.MethodName) ∈ rx_tbl := rx_mem8 174 (by decide +kernel) (by decide +kernel)
theorem rl_w1860 : Jvm.Cond.methodLink "FarthestHeirLaw" (225 : Nat) ({ cls := "FarthestHeirModel", name := "beyond", desc := "(II)I" } : Jvm.MethodName) ∈ rx_tbl := rx_mem8 180 (by decide +kernel) (by decide +kernel)
theorem rl_w1861 : Jvm.Cond.instanceMethod ({ cls := "FarthestHeirModel", name := "beyond", desc := "(II)I" } : Jvm.MethodName) ∈ rx_tbl := rx_mem8 181 (by decide +kernel) (by decide +kernel)
theorem rl_w1862 : Jvm.Cond.selects "FarthestHeirModel" ({ cls := "FarthestHeirModel", name := "beyond", desc := "(II)I" } : Jvm.MethodName) ({ cls := "FarthestHeirModel", name := "beyond", desc := "(II)I" } : Jvm.MethodName) ∈ rx_tbl := rx_mem8 182 (by decide +kernel) (by decide +kernel)
theorem rl_w1864 : Jvm.Cond.methodLink "FarthestHeirLaw" (228 : Nat) ({ cls := "FarthestHeirModel", name := "nearest", desc := "(I)I" } : Jvm.MethodName) ∈ rx_tbl := rx_mem8 184 (by decide +kernel) (by decide +kernel)
theorem rl_w1865 : Jvm.Cond.instanceMethod ({ cls := "FarthestHeirModel", name := "nearest", desc := "(I)I" } : Jvm.MethodName) ∈ rx_tbl := rx_mem8 185 (by decide +kernel) (by decide +kernel)
theorem rl_w1866 : Jvm.Cond.selects "FarthestHeirModel" ({ cls := "FarthestHeirModel", name := "nearest", desc := "(I)I" } : Jvm.MethodName) ({ cls := "FarthestHeirModel", name := "nearest", desc := "(I)I" } : Jvm.MethodName) ∈ rx_tbl := rx_mem8 186 (by decide +kernel) (by decide +kernel)
theorem rl_w1868 : Jvm.Cond.methodLink "FarthestHeirLaw" (231 : Nat) ({ cls := "FarthestHeirModel", name := "spread", desc := "(II)I" } : Jvm.MethodName) ∈ rx_tbl := rx_mem8 188 (by decide +kernel) (by decide +kernel)
theorem rl_w1869 : Jvm.Cond.instanceMethod ({ cls := "FarthestHeirModel", name := "spread", desc := "(II)I" } : Jvm.MethodName) ∈ rx_tbl := rx_mem8 189 (by decide +kernel) (by decide +kernel)
theorem rl_w1870 : Jvm.Cond.selects "FarthestHeirModel" ({ cls := "FarthestHeirModel", name := "spread", desc := "(II)I" } : Jvm.MethodName) ({ cls := "FarthestHeirModel", name := "spread", desc := "(II)I" } : Jvm.MethodName) ∈ rx_tbl := rx_mem8 190 (by decide +kernel) (by decide +kernel)
theorem rl_w1872 : Jvm.Cond.methodLink "FarthestHeirLaw" (234 : Nat) ({ cls := "FarthestHeirModel", name := "masks", desc := "(I)I" } : Jvm.MethodName) ∈ rx_tbl := rx_mem8 192 (by decide +kernel) (by decide +kernel)
theorem rl_w1873 : Jvm.Cond.instanceMethod ({ cls := "FarthestHeirModel", name := "masks", desc := "(I)I" } : Jvm.MethodName) ∈ rx_tbl := rx_mem8 193 (by decide +kernel) (by decide +kernel)
theorem rl_w1874 : Jvm.Cond.selects "FarthestHeirModel" ({ cls := "FarthestHeirModel", name := "masks", desc := "(I)I" } : Jvm.MethodName) ({ cls := "FarthestHeirModel", name := "masks", desc := "(I)I" } : Jvm.MethodName) ∈ rx_tbl := rx_mem8 194 (by decide +kernel) (by decide +kernel)
theorem rl_w1876 : Jvm.Cond.methodLink "FarthestHeirLaw" (237 : Nat) ({ cls := "FarthestHeirModel", name := "rank", desc := "(I)I" } : Jvm.MethodName) ∈ rx_tbl := rx_mem8 196 (by decide +kernel) (by decide +kernel)
theorem rl_w1877 : Jvm.Cond.instanceMethod ({ cls := "FarthestHeirModel", name := "rank", desc := "(I)I" } : Jvm.MethodName) ∈ rx_tbl := rx_mem8 197 (by decide +kernel) (by decide +kernel)
theorem rl_w1878 : Jvm.Cond.selects "FarthestHeirModel" ({ cls := "FarthestHeirModel", name := "rank", desc := "(I)I" } : Jvm.MethodName) ({ cls := "FarthestHeirModel", name := "rank", desc := "(I)I" } : Jvm.MethodName) ∈ rx_tbl := rx_mem8 198 (by decide +kernel) (by decide +kernel)
theorem rl_w1880 : Jvm.Cond.methodLink "FarthestHeirLaw" (240 : Nat) ({ cls := "FarthestHeirModel", name := "mild", desc := "(I)I" } : Jvm.MethodName) ∈ rx_tbl := rx_mem8 200 (by decide +kernel) (by decide +kernel)
theorem rl_w1881 : Jvm.Cond.instanceMethod ({ cls := "FarthestHeirModel", name := "mild", desc := "(I)I" } : Jvm.MethodName) ∈ rx_tbl := rx_mem8 201 (by decide +kernel) (by decide +kernel)
theorem rl_w1882 : Jvm.Cond.selects "FarthestHeirModel" ({ cls := "FarthestHeirModel", name := "mild", desc := "(I)I" } : Jvm.MethodName) ({ cls := "FarthestHeirModel", name := "mild", desc := "(I)I" } : Jvm.MethodName) ∈ rx_tbl := rx_mem8 202 (by decide +kernel) (by decide +kernel)
theorem rl_w1884 : Jvm.Cond.methodLink "FarthestHeirLaw" (243 : Nat) ({ cls := "FarthestHeirModel", name := "unlike", desc := "(I)I" } : Jvm.MethodName) ∈ rx_tbl := rx_mem8 204 (by decide +kernel) (by decide +kernel)
theorem rl_w1885 : Jvm.Cond.instanceMethod ({ cls := "FarthestHeirModel", name := "unlike", desc := "(I)I" } : Jvm.MethodName) ∈ rx_tbl := rx_mem8 205 (by decide +kernel) (by decide +kernel)
theorem rl_w1886 : Jvm.Cond.selects "FarthestHeirModel" ({ cls := "FarthestHeirModel", name := "unlike", desc := "(I)I" } : Jvm.MethodName) ({ cls := "FarthestHeirModel", name := "unlike", desc := "(I)I" } : Jvm.MethodName) ∈ rx_tbl := rx_mem8 206 (by decide +kernel) (by decide +kernel)
theorem rl_w1888 : Jvm.Cond.methodLink "FarthestHeirLaw" (246 : Nat) ({ cls := "FarthestHeirModel", name := "century", desc := "(IIII)I" } : Jvm.MethodName) ∈ rx_tbl := rx_mem8 208 (by decide +kernel) (by decide +kernel)
theorem rl_w1889 : Jvm.Cond.instanceMethod ({ cls := "FarthestHeirModel", name := "century", desc := "(IIII)I" } : Jvm.MethodName) ∈ rx_tbl := rx_mem8 209 (by decide +kernel) (by decide +kernel)
theorem rl_w1890 : Jvm.Cond.selects "FarthestHeirModel" ({ cls := "FarthestHeirModel", name := "century", desc := "(IIII)I" } : Jvm.MethodName) ({ cls := "FarthestHeirModel", name := "century", desc := "(IIII)I" } : Jvm.MethodName) ∈ rx_tbl := rx_mem8 210 (by decide +kernel) (by decide +kernel)
theorem rl_w1904 : Jvm.Cond.methodLink "FarthestHeirLaw" (250 : Nat) ({ cls := "FarthestHeirModel", name := "span", desc := "(IIIIII)I" } : Jvm.MethodName) ∈ rx_tbl := rx_mem8 224 (by decide +kernel) (by decide +kernel)
theorem rl_w1905 : Jvm.Cond.instanceMethod ({ cls := "FarthestHeirModel", name := "span", desc := "(IIIIII)I" } : Jvm.MethodName) ∈ rx_tbl := rx_mem8 225 (by decide +kernel) (by decide +kernel)
theorem rl_w1906 : Jvm.Cond.selects "FarthestHeirModel" ({ cls := "FarthestHeirModel", name := "span", desc := "(IIIIII)I" } : Jvm.MethodName) ({ cls := "FarthestHeirModel", name := "span", desc := "(IIIIII)I" } : Jvm.MethodName) ∈ rx_tbl := rx_mem8 226 (by decide +kernel) (by decide +kernel)
theorem rl_w1908 : Jvm.Cond.methodLink "FarthestHeirLaw" (254 : Nat) ({ cls := "FarthestHeirModel", name := "image", desc := "()I" } : Jvm.MethodName) ∈ rx_tbl := rx_mem8 228 (by decide +kernel) (by decide +kernel)
theorem rl_w1909 : Jvm.Cond.instanceMethod ({ cls := "FarthestHeirModel", name := "image", desc := "()I" } : Jvm.MethodName) ∈ rx_tbl := rx_mem8 229 (by decide +kernel) (by decide +kernel)
theorem rl_w1910 : Jvm.Cond.selects "FarthestHeirModel" ({ cls := "FarthestHeirModel", name := "image", desc := "()I" } : Jvm.MethodName) ({ cls := "FarthestHeirModel", name := "image", desc := "()I" } : Jvm.MethodName) ∈ rx_tbl := rx_mem8 230 (by decide +kernel) (by decide +kernel)
theorem rl_w1920 : Jvm.Cond.methodLink "FarthestHeirLaw" (258 : Nat) ({ cls := "FarthestHeirModel", name := "restore", desc := "()I" } : Jvm.MethodName) ∈ rx_tbl := rx_mem9 0 (by decide +kernel) (by decide +kernel)
theorem rl_w1921 : Jvm.Cond.instanceMethod ({ cls := "FarthestHeirModel", name := "restore", desc := "()I" } : Jvm.MethodName) ∈ rx_tbl := rx_mem9 1 (by decide +kernel) (by decide +kernel)
theorem rl_w1922 : Jvm.Cond.selects "FarthestHeirModel" ({ cls := "FarthestHeirModel", name := "restore", desc := "()I" } : Jvm.MethodName) ({ cls := "FarthestHeirModel", name := "restore", desc := "()I" } : Jvm.MethodName) ∈ rx_tbl := rx_mem9 2 (by decide +kernel) (by decide +kernel)
theorem rl_w1924 : Jvm.Cond.methodLink "FarthestHeirLaw" (262 : Nat) ({ cls := "FarthestHeirModel", name := "status", desc := "(I)I" } : Jvm.MethodName) ∈ rx_tbl := rx_mem9 4 (by decide +kernel) (by decide +kernel)
theorem rl_w1925 : Jvm.Cond.instanceMethod ({ cls := "FarthestHeirModel", name := "status", desc := "(I)I" } : Jvm.MethodName) ∈ rx_tbl := rx_mem9 5 (by decide +kernel) (by decide +kernel)
theorem rl_w1926 : Jvm.Cond.selects "FarthestHeirModel" ({ cls := "FarthestHeirModel", name := "status", desc := "(I)I" } : Jvm.MethodName) ({ cls := "FarthestHeirModel", name := "status", desc := "(I)I" } : Jvm.MethodName) ∈ rx_tbl := rx_mem9 6 (by decide +kernel) (by decide +kernel)
theorem rl_w1928 : Jvm.Cond.methodLink "FarthestHeirLaw" (266 : Nat) ({ cls := "FarthestHeirModel", name := "count", desc := "(I)I" } : Jvm.MethodName) ∈ rx_tbl := rx_mem9 8 (by decide +kernel) (by decide +kernel)
theorem rl_w1929 : Jvm.Cond.instanceMethod ({ cls := "FarthestHeirModel", name := "count", desc := "(I)I" } : Jvm.MethodName) ∈ rx_tbl := rx_mem9 9 (by decide +kernel) (by decide +kernel)
theorem rl_w1930 : Jvm.Cond.selects "FarthestHeirModel" ({ cls := "FarthestHeirModel", name := "count", desc := "(I)I" } : Jvm.MethodName) ({ cls := "FarthestHeirModel", name := "count", desc := "(I)I" } : Jvm.MethodName) ∈ rx_tbl := rx_mem9 10 (by decide +kernel) (by decide +kernel)
theorem dl_after_0 : decode cL_after 0 = .ok (.aload_n 2, 1) := by decide +kernel
theorem dl_after_1 : decode cL_after 1 = .ok (.iconst 0, 1) := by decide +kernel
theorem dl_after_2 : decode cL_after 2 = .ok (.aload_n 0, 1) := by decide +kernel
theorem dl_after_3 : decode cL_after 3 = .ok (.iload_n 1, 1) := by decide +kernel
theorem dl_after_4 : decode cL_after 4 = .ok (.invokevirtual 43, 3) := by decide +kernel
theorem dl_after_7 : decode cL_after 7 = .ok (.i2l, 1) := by decide +kernel
theorem dl_after_8 : decode cL_after 8 = .ok (.lastore, 1) := by decide +kernel
theorem dl_after_9 : decode cL_after 9 = .ok (.goto 6, 3) := by decide +kernel
theorem dl_after_12 : decode cL_after 12 = .ok (.astore_n 3, 1) := by decide +kernel
theorem dl_after_13 : decode cL_after 13 = .ok (.iconst 1, 1) := by decide +kernel
theorem dl_after_14 : decode cL_after 14 = .ok (.ireturn, 1) := by decide +kernel
theorem dl_after_15 : decode cL_after 15 = .ok (.iconst 0, 1) := by decide +kernel
theorem dl_after_16 : decode cL_after 16 = .ok (.ireturn, 1) := by decide +kernel
theorem dl_ahead_0 : decode cL_ahead 0 = .ok (.aload_n 3, 1) := by decide +kernel
theorem dl_ahead_1 : decode cL_ahead 1 = .ok (.iconst 0, 1) := by decide +kernel
theorem dl_ahead_2 : decode cL_ahead 2 = .ok (.aload_n 0, 1) := by decide +kernel
theorem dl_ahead_3 : decode cL_ahead 3 = .ok (.iload_n 1, 1) := by decide +kernel
theorem dl_ahead_4 : decode cL_ahead 4 = .ok (.iload_n 2, 1) := by decide +kernel
theorem dl_ahead_5 : decode cL_ahead 5 = .ok (.invokevirtual 40, 3) := by decide +kernel
theorem dl_ahead_8 : decode cL_ahead 8 = .ok (.i2l, 1) := by decide +kernel
theorem dl_ahead_9 : decode cL_ahead 9 = .ok (.lastore, 1) := by decide +kernel
theorem dl_ahead_10 : decode cL_ahead 10 = .ok (.goto 7, 3) := by decide +kernel
theorem dl_ahead_13 : decode cL_ahead 13 = .ok (.astore 4, 2) := by decide +kernel
theorem dl_ahead_15 : decode cL_ahead 15 = .ok (.iconst 1, 1) := by decide +kernel
theorem dl_ahead_16 : decode cL_ahead 16 = .ok (.ireturn, 1) := by decide +kernel
theorem dl_ahead_17 : decode cL_ahead 17 = .ok (.iconst 0, 1) := by decide +kernel
theorem dl_ahead_18 : decode cL_ahead 18 = .ok (.ireturn, 1) := by decide +kernel
theorem dl_alike_0 : decode cL_alike 0 = .ok (.aload_n 2, 1) := by decide +kernel
theorem dl_alike_1 : decode cL_alike 1 = .ok (.iconst 0, 1) := by decide +kernel
theorem dl_alike_2 : decode cL_alike 2 = .ok (.aload_n 0, 1) := by decide +kernel
theorem dl_alike_3 : decode cL_alike 3 = .ok (.iload_n 1, 1) := by decide +kernel
theorem dl_alike_4 : decode cL_alike 4 = .ok (.invokevirtual 87, 3) := by decide +kernel
theorem dl_alike_7 : decode cL_alike 7 = .ok (.i2l, 1) := by decide +kernel
theorem dl_alike_8 : decode cL_alike 8 = .ok (.lastore, 1) := by decide +kernel
theorem dl_alike_9 : decode cL_alike 9 = .ok (.goto 6, 3) := by decide +kernel
theorem dl_alike_12 : decode cL_alike 12 = .ok (.astore_n 3, 1) := by decide +kernel
theorem dl_alike_13 : decode cL_alike 13 = .ok (.iconst 1, 1) := by decide +kernel
theorem dl_alike_14 : decode cL_alike 14 = .ok (.ireturn, 1) := by decide +kernel
theorem dl_alike_15 : decode cL_alike 15 = .ok (.iconst 0, 1) := by decide +kernel
theorem dl_alike_16 : decode cL_alike 16 = .ok (.ireturn, 1) := by decide +kernel
theorem dl_ask_0 : decode cL_ask 0 = .ok (.aload_n 2, 1) := by decide +kernel
theorem dl_ask_1 : decode cL_ask 1 = .ok (.iconst 0, 1) := by decide +kernel
theorem dl_ask_2 : decode cL_ask 2 = .ok (.aload_n 0, 1) := by decide +kernel
theorem dl_ask_3 : decode cL_ask 3 = .ok (.iload_n 1, 1) := by decide +kernel
theorem dl_ask_4 : decode cL_ask 4 = .ok (.invokevirtual 55, 3) := by decide +kernel
theorem dl_ask_7 : decode cL_ask 7 = .ok (.i2l, 1) := by decide +kernel
theorem dl_ask_8 : decode cL_ask 8 = .ok (.lastore, 1) := by decide +kernel
theorem dl_ask_9 : decode cL_ask 9 = .ok (.goto 6, 3) := by decide +kernel
theorem dl_ask_12 : decode cL_ask 12 = .ok (.astore_n 3, 1) := by decide +kernel
theorem dl_ask_13 : decode cL_ask 13 = .ok (.iconst 1, 1) := by decide +kernel
theorem dl_ask_14 : decode cL_ask 14 = .ok (.ireturn, 1) := by decide +kernel
theorem dl_ask_15 : decode cL_ask 15 = .ok (.iconst 0, 1) := by decide +kernel
theorem dl_ask_16 : decode cL_ask 16 = .ok (.ireturn, 1) := by decide +kernel
theorem dl_beyond_0 : decode cL_beyond 0 = .ok (.aload_n 3, 1) := by decide +kernel
theorem dl_beyond_1 : decode cL_beyond 1 = .ok (.iconst 0, 1) := by decide +kernel
theorem dl_beyond_2 : decode cL_beyond 2 = .ok (.aload_n 0, 1) := by decide +kernel
theorem dl_beyond_3 : decode cL_beyond 3 = .ok (.iload_n 1, 1) := by decide +kernel
theorem dl_beyond_4 : decode cL_beyond 4 = .ok (.iload_n 2, 1) := by decide +kernel
theorem dl_beyond_5 : decode cL_beyond 5 = .ok (.invokevirtual 90, 3) := by decide +kernel
theorem dl_beyond_8 : decode cL_beyond 8 = .ok (.i2l, 1) := by decide +kernel
theorem dl_beyond_9 : decode cL_beyond 9 = .ok (.lastore, 1) := by decide +kernel
theorem dl_beyond_10 : decode cL_beyond 10 = .ok (.goto 11, 3) := by decide +kernel
theorem dl_beyond_13 : decode cL_beyond 13 = .ok (.astore 4, 2) := by decide +kernel
theorem dl_beyond_15 : decode cL_beyond 15 = .ok (.iconst 1, 1) := by decide +kernel
theorem dl_beyond_16 : decode cL_beyond 16 = .ok (.ireturn, 1) := by decide +kernel
theorem dl_beyond_17 : decode cL_beyond 17 = .ok (.astore 4, 2) := by decide +kernel
theorem dl_beyond_19 : decode cL_beyond 19 = .ok (.iconst 2, 1) := by decide +kernel
theorem dl_beyond_20 : decode cL_beyond 20 = .ok (.ireturn, 1) := by decide +kernel
theorem dl_beyond_21 : decode cL_beyond 21 = .ok (.iconst 0, 1) := by decide +kernel
theorem dl_beyond_22 : decode cL_beyond 22 = .ok (.ireturn, 1) := by decide +kernel
theorem dl_book_0 : decode cL_book 0 = .ok (.aload_n 2, 1) := by decide +kernel
theorem dl_book_1 : decode cL_book 1 = .ok (.iconst 0, 1) := by decide +kernel
theorem dl_book_2 : decode cL_book 2 = .ok (.aload_n 0, 1) := by decide +kernel
theorem dl_book_3 : decode cL_book 3 = .ok (.iload_n 1, 1) := by decide +kernel
theorem dl_book_4 : decode cL_book 4 = .ok (.invokevirtual 21, 3) := by decide +kernel
theorem dl_book_7 : decode cL_book 7 = .ok (.i2l, 1) := by decide +kernel
theorem dl_book_8 : decode cL_book 8 = .ok (.lastore, 1) := by decide +kernel
theorem dl_book_9 : decode cL_book 9 = .ok (.goto 6, 3) := by decide +kernel
theorem dl_book_12 : decode cL_book 12 = .ok (.astore_n 3, 1) := by decide +kernel
theorem dl_book_13 : decode cL_book 13 = .ok (.iconst 1, 1) := by decide +kernel
theorem dl_book_14 : decode cL_book 14 = .ok (.ireturn, 1) := by decide +kernel
theorem dl_book_15 : decode cL_book 15 = .ok (.iconst 0, 1) := by decide +kernel
theorem dl_book_16 : decode cL_book 16 = .ok (.ireturn, 1) := by decide +kernel
theorem dl_century_0 : decode cL_century 0 = .ok (.aload 5, 2) := by decide +kernel
theorem dl_century_2 : decode cL_century 2 = .ok (.iconst 0, 1) := by decide +kernel
theorem dl_century_3 : decode cL_century 3 = .ok (.aload_n 0, 1) := by decide +kernel
theorem dl_century_4 : decode cL_century 4 = .ok (.iload_n 1, 1) := by decide +kernel
theorem dl_century_5 : decode cL_century 5 = .ok (.iload_n 2, 1) := by decide +kernel
theorem dl_century_6 : decode cL_century 6 = .ok (.iload_n 3, 1) := by decide +kernel
theorem dl_century_7 : decode cL_century 7 = .ok (.iload 4, 2) := by decide +kernel
theorem dl_century_9 : decode cL_century 9 = .ok (.invokevirtual 111, 3) := by decide +kernel
theorem dl_century_12 : decode cL_century 12 = .ok (.i2l, 1) := by decide +kernel
theorem dl_century_13 : decode cL_century 13 = .ok (.lastore, 1) := by decide +kernel
theorem dl_century_14 : decode cL_century 14 = .ok (.goto 7, 3) := by decide +kernel
theorem dl_century_17 : decode cL_century 17 = .ok (.astore 6, 2) := by decide +kernel
theorem dl_century_19 : decode cL_century 19 = .ok (.iconst 1, 1) := by decide +kernel
theorem dl_century_20 : decode cL_century 20 = .ok (.ireturn, 1) := by decide +kernel
theorem dl_century_21 : decode cL_century 21 = .ok (.iconst 0, 1) := by decide +kernel
theorem dl_century_22 : decode cL_century 22 = .ok (.ireturn, 1) := by decide +kernel
theorem dl_chance_0 : decode cL_chance 0 = .ok (.aload 5, 2) := by decide +kernel
theorem dl_chance_2 : decode cL_chance 2 = .ok (.iconst 0, 1) := by decide +kernel
theorem dl_chance_3 : decode cL_chance 3 = .ok (.aload_n 0, 1) := by decide +kernel
theorem dl_chance_4 : decode cL_chance 4 = .ok (.iload_n 1, 1) := by decide +kernel
theorem dl_chance_5 : decode cL_chance 5 = .ok (.iload_n 2, 1) := by decide +kernel
theorem dl_chance_6 : decode cL_chance 6 = .ok (.iload_n 3, 1) := by decide +kernel
theorem dl_chance_7 : decode cL_chance 7 = .ok (.iload 4, 2) := by decide +kernel
theorem dl_chance_9 : decode cL_chance 9 = .ok (.invokevirtual 73, 3) := by decide +kernel
theorem dl_chance_12 : decode cL_chance 12 = .ok (.lastore, 1) := by decide +kernel
theorem dl_chance_13 : decode cL_chance 13 = .ok (.goto 7, 3) := by decide +kernel
theorem dl_chance_16 : decode cL_chance 16 = .ok (.astore 6, 2) := by decide +kernel
theorem dl_chance_18 : decode cL_chance 18 = .ok (.iconst 1, 1) := by decide +kernel
theorem dl_chance_19 : decode cL_chance 19 = .ok (.ireturn, 1) := by decide +kernel
theorem dl_chance_20 : decode cL_chance 20 = .ok (.iconst 0, 1) := by decide +kernel
theorem dl_chance_21 : decode cL_chance 21 = .ok (.ireturn, 1) := by decide +kernel
theorem dl_child_0 : decode cL_child 0 = .ok (.aload_n 2, 1) := by decide +kernel
theorem dl_child_1 : decode cL_child 1 = .ok (.iconst 0, 1) := by decide +kernel
theorem dl_child_2 : decode cL_child 2 = .ok (.aload_n 0, 1) := by decide +kernel
theorem dl_child_3 : decode cL_child 3 = .ok (.iload_n 1, 1) := by decide +kernel
theorem dl_child_4 : decode cL_child 4 = .ok (.invokevirtual 67, 3) := by decide +kernel
theorem dl_child_7 : decode cL_child 7 = .ok (.i2l, 1) := by decide +kernel
theorem dl_child_8 : decode cL_child 8 = .ok (.lastore, 1) := by decide +kernel
theorem dl_child_9 : decode cL_child 9 = .ok (.goto 6, 3) := by decide +kernel
theorem dl_child_12 : decode cL_child 12 = .ok (.astore_n 3, 1) := by decide +kernel
theorem dl_child_13 : decode cL_child 13 = .ok (.iconst 1, 1) := by decide +kernel
theorem dl_child_14 : decode cL_child 14 = .ok (.ireturn, 1) := by decide +kernel
theorem dl_child_15 : decode cL_child 15 = .ok (.iconst 0, 1) := by decide +kernel
theorem dl_child_16 : decode cL_child 16 = .ok (.ireturn, 1) := by decide +kernel
theorem dl_dukedom_0 : decode cL_dukedom 0 = .ok (.aload_n 2, 1) := by decide +kernel
theorem dl_dukedom_1 : decode cL_dukedom 1 = .ok (.iconst 0, 1) := by decide +kernel
theorem dl_dukedom_2 : decode cL_dukedom 2 = .ok (.aload_n 0, 1) := by decide +kernel
theorem dl_dukedom_3 : decode cL_dukedom 3 = .ok (.iload_n 1, 1) := by decide +kernel
theorem dl_dukedom_4 : decode cL_dukedom 4 = .ok (.invokevirtual 7, 3) := by decide +kernel
theorem dl_dukedom_7 : decode cL_dukedom 7 = .ok (.i2l, 1) := by decide +kernel
theorem dl_dukedom_8 : decode cL_dukedom 8 = .ok (.lastore, 1) := by decide +kernel
theorem dl_dukedom_9 : decode cL_dukedom 9 = .ok (.goto 6, 3) := by decide +kernel
theorem dl_dukedom_12 : decode cL_dukedom 12 = .ok (.astore_n 3, 1) := by decide +kernel
theorem dl_dukedom_13 : decode cL_dukedom 13 = .ok (.iconst 1, 1) := by decide +kernel
theorem dl_dukedom_14 : decode cL_dukedom 14 = .ok (.ireturn, 1) := by decide +kernel
theorem dl_dukedom_15 : decode cL_dukedom 15 = .ok (.iconst 0, 1) := by decide +kernel
theorem dl_dukedom_16 : decode cL_dukedom 16 = .ok (.ireturn, 1) := by decide +kernel
theorem dl_far_0 : decode cL_far 0 = .ok (.aload_n 3, 1) := by decide +kernel
theorem dl_far_1 : decode cL_far 1 = .ok (.iconst 0, 1) := by decide +kernel
theorem dl_far_2 : decode cL_far 2 = .ok (.aload_n 0, 1) := by decide +kernel
theorem dl_far_3 : decode cL_far 3 = .ok (.iload_n 1, 1) := by decide +kernel
theorem dl_far_4 : decode cL_far 4 = .ok (.iload_n 2, 1) := by decide +kernel
theorem dl_far_5 : decode cL_far 5 = .ok (.invokevirtual 33, 3) := by decide +kernel
theorem dl_far_8 : decode cL_far 8 = .ok (.i2l, 1) := by decide +kernel
theorem dl_far_9 : decode cL_far 9 = .ok (.lastore, 1) := by decide +kernel
theorem dl_far_10 : decode cL_far 10 = .ok (.goto 7, 3) := by decide +kernel
theorem dl_far_13 : decode cL_far 13 = .ok (.astore 4, 2) := by decide +kernel
theorem dl_far_15 : decode cL_far 15 = .ok (.iconst 1, 1) := by decide +kernel
theorem dl_far_16 : decode cL_far 16 = .ok (.ireturn, 1) := by decide +kernel
theorem dl_far_17 : decode cL_far 17 = .ok (.iconst 0, 1) := by decide +kernel
theorem dl_far_18 : decode cL_far 18 = .ok (.ireturn, 1) := by decide +kernel
theorem dl_feigning_0 : decode cL_feigning 0 = .ok (.aload 4, 2) := by decide +kernel
theorem dl_feigning_2 : decode cL_feigning 2 = .ok (.iconst 0, 1) := by decide +kernel
theorem dl_feigning_3 : decode cL_feigning 3 = .ok (.aload_n 0, 1) := by decide +kernel
theorem dl_feigning_4 : decode cL_feigning 4 = .ok (.iload_n 1, 1) := by decide +kernel
theorem dl_feigning_5 : decode cL_feigning 5 = .ok (.iload_n 2, 1) := by decide +kernel
theorem dl_feigning_6 : decode cL_feigning 6 = .ok (.iload_n 3, 1) := by decide +kernel
theorem dl_feigning_7 : decode cL_feigning 7 = .ok (.invokevirtual 77, 3) := by decide +kernel
theorem dl_feigning_10 : decode cL_feigning 10 = .ok (.i2l, 1) := by decide +kernel
theorem dl_feigning_11 : decode cL_feigning 11 = .ok (.lastore, 1) := by decide +kernel
theorem dl_feigning_12 : decode cL_feigning 12 = .ok (.goto 7, 3) := by decide +kernel
theorem dl_feigning_15 : decode cL_feigning 15 = .ok (.astore 5, 2) := by decide +kernel
theorem dl_feigning_17 : decode cL_feigning 17 = .ok (.iconst 1, 1) := by decide +kernel
theorem dl_feigning_18 : decode cL_feigning 18 = .ok (.ireturn, 1) := by decide +kernel
theorem dl_feigning_19 : decode cL_feigning 19 = .ok (.iconst 0, 1) := by decide +kernel
theorem dl_feigning_20 : decode cL_feigning 20 = .ok (.ireturn, 1) := by decide +kernel
theorem dl_feint_0 : decode cL_feint 0 = .ok (.aload_n 3, 1) := by decide +kernel
theorem dl_feint_1 : decode cL_feint 1 = .ok (.iconst 0, 1) := by decide +kernel
theorem dl_feint_2 : decode cL_feint 2 = .ok (.aload_n 0, 1) := by decide +kernel
theorem dl_feint_3 : decode cL_feint 3 = .ok (.iload_n 1, 1) := by decide +kernel
theorem dl_feint_4 : decode cL_feint 4 = .ok (.iload_n 2, 1) := by decide +kernel
theorem dl_feint_5 : decode cL_feint 5 = .ok (.invokevirtual 46, 3) := by decide +kernel
theorem dl_feint_8 : decode cL_feint 8 = .ok (.i2l, 1) := by decide +kernel
theorem dl_feint_9 : decode cL_feint 9 = .ok (.lastore, 1) := by decide +kernel
theorem dl_feint_10 : decode cL_feint 10 = .ok (.goto 11, 3) := by decide +kernel
theorem dl_feint_13 : decode cL_feint 13 = .ok (.astore 4, 2) := by decide +kernel
theorem dl_feint_15 : decode cL_feint 15 = .ok (.iconst 1, 1) := by decide +kernel
theorem dl_feint_16 : decode cL_feint 16 = .ok (.ireturn, 1) := by decide +kernel
theorem dl_feint_17 : decode cL_feint 17 = .ok (.astore 4, 2) := by decide +kernel
theorem dl_feint_19 : decode cL_feint 19 = .ok (.iconst 2, 1) := by decide +kernel
theorem dl_feint_20 : decode cL_feint 20 = .ok (.ireturn, 1) := by decide +kernel
theorem dl_feint_21 : decode cL_feint 21 = .ok (.iconst 0, 1) := by decide +kernel
theorem dl_feint_22 : decode cL_feint 22 = .ok (.ireturn, 1) := by decide +kernel
theorem dl_land_0 : decode cL_land 0 = .ok (.aload 4, 2) := by decide +kernel
theorem dl_land_2 : decode cL_land 2 = .ok (.iconst 0, 1) := by decide +kernel
theorem dl_land_3 : decode cL_land 3 = .ok (.aload_n 0, 1) := by decide +kernel
theorem dl_land_4 : decode cL_land 4 = .ok (.iload_n 1, 1) := by decide +kernel
theorem dl_land_5 : decode cL_land 5 = .ok (.iload_n 2, 1) := by decide +kernel
theorem dl_land_6 : decode cL_land 6 = .ok (.iload_n 3, 1) := by decide +kernel
theorem dl_land_7 : decode cL_land 7 = .ok (.invokevirtual 81, 3) := by decide +kernel
theorem dl_land_10 : decode cL_land 10 = .ok (.i2l, 1) := by decide +kernel
theorem dl_land_11 : decode cL_land 11 = .ok (.lastore, 1) := by decide +kernel
theorem dl_land_12 : decode cL_land 12 = .ok (.goto 11, 3) := by decide +kernel
theorem dl_land_15 : decode cL_land 15 = .ok (.astore 5, 2) := by decide +kernel
theorem dl_land_17 : decode cL_land 17 = .ok (.iconst 1, 1) := by decide +kernel
theorem dl_land_18 : decode cL_land 18 = .ok (.ireturn, 1) := by decide +kernel
theorem dl_land_19 : decode cL_land 19 = .ok (.astore 5, 2) := by decide +kernel
theorem dl_land_21 : decode cL_land 21 = .ok (.iconst 2, 1) := by decide +kernel
theorem dl_land_22 : decode cL_land 22 = .ok (.ireturn, 1) := by decide +kernel
theorem dl_land_23 : decode cL_land 23 = .ok (.iconst 0, 1) := by decide +kernel
theorem dl_land_24 : decode cL_land 24 = .ok (.ireturn, 1) := by decide +kernel
theorem dl_law_0 : decode cL_law 0 = .ok (.aload_n 2, 1) := by decide +kernel
theorem dl_law_1 : decode cL_law 1 = .ok (.iconst 0, 1) := by decide +kernel
theorem dl_law_2 : decode cL_law 2 = .ok (.aload_n 0, 1) := by decide +kernel
theorem dl_law_3 : decode cL_law 3 = .ok (.iload_n 1, 1) := by decide +kernel
theorem dl_law_4 : decode cL_law 4 = .ok (.invokevirtual 15, 3) := by decide +kernel
theorem dl_law_7 : decode cL_law 7 = .ok (.i2l, 1) := by decide +kernel
theorem dl_law_8 : decode cL_law 8 = .ok (.lastore, 1) := by decide +kernel
theorem dl_law_9 : decode cL_law 9 = .ok (.goto 6, 3) := by decide +kernel
theorem dl_law_12 : decode cL_law 12 = .ok (.astore_n 3, 1) := by decide +kernel
theorem dl_law_13 : decode cL_law 13 = .ok (.iconst 1, 1) := by decide +kernel
theorem dl_law_14 : decode cL_law 14 = .ok (.ireturn, 1) := by decide +kernel
theorem dl_law_15 : decode cL_law 15 = .ok (.iconst 0, 1) := by decide +kernel
theorem dl_law_16 : decode cL_law 16 = .ok (.ireturn, 1) := by decide +kernel
theorem dl_law__0 : decode cL_law_ 0 = .ok (.new 8, 3) := by decide +kernel
theorem dl_law__3 : decode cL_law_ 3 = .ok (.dup, 1) := by decide +kernel
theorem dl_law__4 : decode cL_law_ 4 = .ok (.invokespecial 119, 3) := by decide +kernel
theorem dl_law__7 : decode cL_law_ 7 = .ok (.astore_n 1, 1) := by decide +kernel
theorem dl_law__8 : decode cL_law_ 8 = .ok (.new 120, 3) := by decide +kernel
theorem dl_law__11 : decode cL_law_ 11 = .ok (.dup, 1) := by decide +kernel
theorem dl_law__12 : decode cL_law_ 12 = .ok (.invokespecial 122, 3) := by decide +kernel
theorem dl_law__15 : decode cL_law_ 15 = .ok (.astore_n 2, 1) := by decide +kernel
theorem dl_law__16 : decode cL_law_ 16 = .ok (.iconst 1, 1) := by decide +kernel
theorem dl_law__17 : decode cL_law_ 17 = .ok (.newarray .long, 2) := by decide +kernel
theorem dl_law__19 : decode cL_law_ 19 = .ok (.astore_n 3, 1) := by decide +kernel
theorem dl_law__20 : decode cL_law_ 20 = .ok (.iconst 0, 1) := by decide +kernel
theorem dl_law__21 : decode cL_law_ 21 = .ok (.istore 4, 2) := by decide +kernel
theorem dl_law__23 : decode cL_law_ 23 = .ok (.iload 4, 2) := by decide +kernel
theorem dl_law__25 : decode cL_law_ 25 = .ok (.aload_n 0, 1) := by decide +kernel
theorem dl_law__26 : decode cL_law_ 26 = .ok (.arraylength, 1) := by decide +kernel
theorem dl_law__27 : decode cL_law_ 27 = .ok (.bipush 9, 2) := by decide +kernel
theorem dl_law__29 : decode cL_law_ 29 = .ok (.isub, 1) := by decide +kernel
theorem dl_law__30 : decode cL_law_ 30 = .ok (.if_icmp .gt 2599, 3) := by decide +kernel
theorem dl_law__33 : decode cL_law_ 33 = .ok (.aload_n 0, 1) := by decide +kernel
theorem dl_law__34 : decode cL_law_ 34 = .ok (.iload 4, 2) := by decide +kernel
theorem dl_law__36 : decode cL_law_ 36 = .ok (.iaload, 1) := by decide +kernel
theorem dl_law__37 : decode cL_law_ 37 = .ok (.bipush 63, 2) := by decide +kernel
theorem dl_law__39 : decode cL_law_ 39 = .ok (.iand, 1) := by decide +kernel
theorem dl_law__40 : decode cL_law_ 40 = .ok (.tableswitch 2583 0 40 #[180, 253, 309, 365, 421, 477, 490, 503, 559, 627, 695, 841, 909, 965, 1033, 1101, 1157, 1213, 1226, 1282, 1338, 1406, 1462, 1518, 1609, 1689, 1769, 1825, 1881, 1949, 2005, 2073, 2129, 2185, 2241, 2297, 2389, 2507, 2520, 2533, 2558], 180) := by decide +kernel
theorem dl_law__220 : decode cL_law_ 220 = .ok (.aload_n 1, 1) := by decide +kernel
theorem dl_law__221 : decode cL_law_ 221 = .ok (.aload_n 0, 1) := by decide +kernel
theorem dl_law__222 : decode cL_law_ 222 = .ok (.iload 4, 2) := by decide +kernel
theorem dl_law__224 : decode cL_law_ 224 = .ok (.iconst 1, 1) := by decide +kernel
theorem dl_law__225 : decode cL_law_ 225 = .ok (.iadd, 1) := by decide +kernel
theorem dl_law__226 : decode cL_law_ 226 = .ok (.iaload, 1) := by decide +kernel
theorem dl_law__227 : decode cL_law_ 227 = .ok (.aload_n 0, 1) := by decide +kernel
theorem dl_law__228 : decode cL_law_ 228 = .ok (.iload 4, 2) := by decide +kernel
theorem dl_law__230 : decode cL_law_ 230 = .ok (.iconst 2, 1) := by decide +kernel
theorem dl_law__231 : decode cL_law_ 231 = .ok (.iadd, 1) := by decide +kernel
theorem dl_law__232 : decode cL_law_ 232 = .ok (.iaload, 1) := by decide +kernel
theorem dl_law__233 : decode cL_law_ 233 = .ok (.aload_n 0, 1) := by decide +kernel
theorem dl_law__234 : decode cL_law_ 234 = .ok (.iload 4, 2) := by decide +kernel
theorem dl_law__236 : decode cL_law_ 236 = .ok (.iconst 3, 1) := by decide +kernel
theorem dl_law__237 : decode cL_law_ 237 = .ok (.iadd, 1) := by decide +kernel
theorem dl_law__238 : decode cL_law_ 238 = .ok (.iaload, 1) := by decide +kernel
theorem dl_law__239 : decode cL_law_ 239 = .ok (.aload_n 0, 1) := by decide +kernel
theorem dl_law__240 : decode cL_law_ 240 = .ok (.iload 4, 2) := by decide +kernel
theorem dl_law__242 : decode cL_law_ 242 = .ok (.iconst 4, 1) := by decide +kernel
theorem dl_law__243 : decode cL_law_ 243 = .ok (.iadd, 1) := by decide +kernel
theorem dl_law__244 : decode cL_law_ 244 = .ok (.iaload, 1) := by decide +kernel
theorem dl_law__245 : decode cL_law_ 245 = .ok (.aload_n 0, 1) := by decide +kernel
theorem dl_law__246 : decode cL_law_ 246 = .ok (.iload 4, 2) := by decide +kernel
theorem dl_law__248 : decode cL_law_ 248 = .ok (.iconst 5, 1) := by decide +kernel
theorem dl_law__249 : decode cL_law_ 249 = .ok (.iadd, 1) := by decide +kernel
theorem dl_law__250 : decode cL_law_ 250 = .ok (.iaload, 1) := by decide +kernel
theorem dl_law__251 : decode cL_law_ 251 = .ok (.invokevirtual 123, 3) := by decide +kernel
theorem dl_law__254 : decode cL_law_ 254 = .ok (.aload_n 2, 1) := by decide +kernel
theorem dl_law__255 : decode cL_law_ 255 = .ok (.aload_n 0, 1) := by decide +kernel
theorem dl_law__256 : decode cL_law_ 256 = .ok (.iload 4, 2) := by decide +kernel
theorem dl_law__258 : decode cL_law_ 258 = .ok (.iconst 1, 1) := by decide +kernel
theorem dl_law__259 : decode cL_law_ 259 = .ok (.iadd, 1) := by decide +kernel
theorem dl_law__260 : decode cL_law_ 260 = .ok (.iaload, 1) := by decide +kernel
theorem dl_law__261 : decode cL_law_ 261 = .ok (.aload_n 0, 1) := by decide +kernel
theorem dl_law__262 : decode cL_law_ 262 = .ok (.iload 4, 2) := by decide +kernel
theorem dl_law__264 : decode cL_law_ 264 = .ok (.iconst 2, 1) := by decide +kernel
theorem dl_law__265 : decode cL_law_ 265 = .ok (.iadd, 1) := by decide +kernel
theorem dl_law__266 : decode cL_law_ 266 = .ok (.iaload, 1) := by decide +kernel
theorem dl_law__267 : decode cL_law_ 267 = .ok (.aload_n 0, 1) := by decide +kernel
theorem dl_law__268 : decode cL_law_ 268 = .ok (.iload 4, 2) := by decide +kernel
theorem dl_law__270 : decode cL_law_ 270 = .ok (.iconst 3, 1) := by decide +kernel
theorem dl_law__271 : decode cL_law_ 271 = .ok (.iadd, 1) := by decide +kernel
theorem dl_law__272 : decode cL_law_ 272 = .ok (.iaload, 1) := by decide +kernel
theorem dl_law__273 : decode cL_law_ 273 = .ok (.aload_n 0, 1) := by decide +kernel
theorem dl_law__274 : decode cL_law_ 274 = .ok (.iload 4, 2) := by decide +kernel
theorem dl_law__276 : decode cL_law_ 276 = .ok (.iconst 4, 1) := by decide +kernel
theorem dl_law__277 : decode cL_law_ 277 = .ok (.iadd, 1) := by decide +kernel
theorem dl_law__278 : decode cL_law_ 278 = .ok (.iaload, 1) := by decide +kernel
theorem dl_law__279 : decode cL_law_ 279 = .ok (.aload_n 0, 1) := by decide +kernel
theorem dl_law__280 : decode cL_law_ 280 = .ok (.iload 4, 2) := by decide +kernel
theorem dl_law__282 : decode cL_law_ 282 = .ok (.iconst 5, 1) := by decide +kernel
theorem dl_law__283 : decode cL_law_ 283 = .ok (.iadd, 1) := by decide +kernel
theorem dl_law__284 : decode cL_law_ 284 = .ok (.iaload, 1) := by decide +kernel
theorem dl_law__285 : decode cL_law_ 285 = .ok (.invokevirtual 127, 3) := by decide +kernel
theorem dl_law__288 : decode cL_law_ 288 = .ok (.if_icmp .eq 2335, 3) := by decide +kernel
theorem dl_law__293 : decode cL_law_ 293 = .ok (.aload_n 1, 1) := by decide +kernel
theorem dl_law__294 : decode cL_law_ 294 = .ok (.aload_n 0, 1) := by decide +kernel
theorem dl_law__295 : decode cL_law_ 295 = .ok (.iload 4, 2) := by decide +kernel
theorem dl_law__297 : decode cL_law_ 297 = .ok (.iconst 1, 1) := by decide +kernel
theorem dl_law__298 : decode cL_law_ 298 = .ok (.iadd, 1) := by decide +kernel
theorem dl_law__299 : decode cL_law_ 299 = .ok (.iaload, 1) := by decide +kernel
theorem dl_law__300 : decode cL_law_ 300 = .ok (.aload_n 3, 1) := by decide +kernel
theorem dl_law__301 : decode cL_law_ 301 = .ok (.invokestatic 128, 3) := by decide +kernel
theorem dl_law__304 : decode cL_law_ 304 = .ok (.istore 5, 2) := by decide +kernel
theorem dl_law__306 : decode cL_law_ 306 = .ok (.aload_n 2, 1) := by decide +kernel
theorem dl_law__307 : decode cL_law_ 307 = .ok (.aload_n 0, 1) := by decide +kernel
theorem dl_law__308 : decode cL_law_ 308 = .ok (.iload 4, 2) := by decide +kernel
theorem dl_law__310 : decode cL_law_ 310 = .ok (.iconst 1, 1) := by decide +kernel
theorem dl_law__311 : decode cL_law_ 311 = .ok (.iadd, 1) := by decide +kernel
theorem dl_law__312 : decode cL_law_ 312 = .ok (.iaload, 1) := by decide +kernel
theorem dl_law__313 : decode cL_law_ 313 = .ok (.invokevirtual 133, 3) := by decide +kernel
theorem dl_law__316 : decode cL_law_ 316 = .ok (.istore 6, 2) := by decide +kernel
theorem dl_law__318 : decode cL_law_ 318 = .ok (.aload_n 2, 1) := by decide +kernel
theorem dl_law__319 : decode cL_law_ 319 = .ok (.invokevirtual 134, 3) := by decide +kernel
theorem dl_law__322 : decode cL_law_ 322 = .ok (.iload 5, 2) := by decide +kernel
theorem dl_law__324 : decode cL_law_ 324 = .ok (.if_icmp .eq 5, 3) := by decide +kernel
theorem dl_law__329 : decode cL_law_ 329 = .ok (.iload 5, 2) := by decide +kernel
theorem dl_law__331 : decode cL_law_ 331 = .ok (.ifCond .ne 15, 3) := by decide +kernel
theorem dl_law__334 : decode cL_law_ 334 = .ok (.aload_n 3, 1) := by decide +kernel
theorem dl_law__335 : decode cL_law_ 335 = .ok (.iconst 0, 1) := by decide +kernel
theorem dl_law__336 : decode cL_law_ 336 = .ok (.laload, 1) := by decide +kernel
theorem dl_law__337 : decode cL_law_ 337 = .ok (.iload 6, 2) := by decide +kernel
theorem dl_law__339 : decode cL_law_ 339 = .ok (.i2l, 1) := by decide +kernel
theorem dl_law__340 : decode cL_law_ 340 = .ok (.lcmp, 1) := by decide +kernel
theorem dl_law__341 : decode cL_law_ 341 = .ok (.ifCond .eq 5, 3) := by decide +kernel
theorem dl_law__346 : decode cL_law_ 346 = .ok (.goto 2277, 3) := by decide +kernel
theorem dl_law__349 : decode cL_law_ 349 = .ok (.aload_n 1, 1) := by decide +kernel
theorem dl_law__350 : decode cL_law_ 350 = .ok (.aload_n 0, 1) := by decide +kernel
theorem dl_law__351 : decode cL_law_ 351 = .ok (.iload 4, 2) := by decide +kernel
theorem dl_law__353 : decode cL_law_ 353 = .ok (.iconst 1, 1) := by decide +kernel
theorem dl_law__354 : decode cL_law_ 354 = .ok (.iadd, 1) := by decide +kernel
theorem dl_law__355 : decode cL_law_ 355 = .ok (.iaload, 1) := by decide +kernel
theorem dl_law__356 : decode cL_law_ 356 = .ok (.aload_n 3, 1) := by decide +kernel
theorem dl_law__357 : decode cL_law_ 357 = .ok (.invokestatic 138, 3) := by decide +kernel
theorem dl_law__360 : decode cL_law_ 360 = .ok (.istore 5, 2) := by decide +kernel
theorem dl_law__362 : decode cL_law_ 362 = .ok (.aload_n 2, 1) := by decide +kernel
theorem dl_law__363 : decode cL_law_ 363 = .ok (.aload_n 0, 1) := by decide +kernel
theorem dl_law__364 : decode cL_law_ 364 = .ok (.iload 4, 2) := by decide +kernel
theorem dl_law__366 : decode cL_law_ 366 = .ok (.iconst 1, 1) := by decide +kernel
theorem dl_law__367 : decode cL_law_ 367 = .ok (.iadd, 1) := by decide +kernel
theorem dl_law__368 : decode cL_law_ 368 = .ok (.iaload, 1) := by decide +kernel
theorem dl_law__369 : decode cL_law_ 369 = .ok (.invokevirtual 140, 3) := by decide +kernel
theorem dl_law__372 : decode cL_law_ 372 = .ok (.istore 6, 2) := by decide +kernel
theorem dl_law__374 : decode cL_law_ 374 = .ok (.aload_n 2, 1) := by decide +kernel
theorem dl_law__375 : decode cL_law_ 375 = .ok (.invokevirtual 134, 3) := by decide +kernel
theorem dl_law__378 : decode cL_law_ 378 = .ok (.iload 5, 2) := by decide +kernel
theorem dl_law__380 : decode cL_law_ 380 = .ok (.if_icmp .eq 5, 3) := by decide +kernel
theorem dl_law__385 : decode cL_law_ 385 = .ok (.iload 5, 2) := by decide +kernel
theorem dl_law__387 : decode cL_law_ 387 = .ok (.ifCond .ne 15, 3) := by decide +kernel
theorem dl_law__390 : decode cL_law_ 390 = .ok (.aload_n 3, 1) := by decide +kernel
theorem dl_law__391 : decode cL_law_ 391 = .ok (.iconst 0, 1) := by decide +kernel
theorem dl_law__392 : decode cL_law_ 392 = .ok (.laload, 1) := by decide +kernel
theorem dl_law__393 : decode cL_law_ 393 = .ok (.iload 6, 2) := by decide +kernel
theorem dl_law__395 : decode cL_law_ 395 = .ok (.i2l, 1) := by decide +kernel
theorem dl_law__396 : decode cL_law_ 396 = .ok (.lcmp, 1) := by decide +kernel
theorem dl_law__397 : decode cL_law_ 397 = .ok (.ifCond .eq 5, 3) := by decide +kernel
theorem dl_law__402 : decode cL_law_ 402 = .ok (.goto 2221, 3) := by decide +kernel
theorem dl_law__405 : decode cL_law_ 405 = .ok (.aload_n 1, 1) := by decide +kernel
theorem dl_law__406 : decode cL_law_ 406 = .ok (.aload_n 0, 1) := by decide +kernel
theorem dl_law__407 : decode cL_law_ 407 = .ok (.iload 4, 2) := by decide +kernel
theorem dl_law__409 : decode cL_law_ 409 = .ok (.iconst 1, 1) := by decide +kernel
theorem dl_law__410 : decode cL_law_ 410 = .ok (.iadd, 1) := by decide +kernel
theorem dl_law__411 : decode cL_law_ 411 = .ok (.iaload, 1) := by decide +kernel
theorem dl_law__412 : decode cL_law_ 412 = .ok (.aload_n 3, 1) := by decide +kernel
theorem dl_law__413 : decode cL_law_ 413 = .ok (.invokestatic 141, 3) := by decide +kernel
theorem dl_law__416 : decode cL_law_ 416 = .ok (.istore 5, 2) := by decide +kernel
theorem dl_law__418 : decode cL_law_ 418 = .ok (.aload_n 2, 1) := by decide +kernel
theorem dl_law__419 : decode cL_law_ 419 = .ok (.aload_n 0, 1) := by decide +kernel
theorem dl_law__420 : decode cL_law_ 420 = .ok (.iload 4, 2) := by decide +kernel
theorem dl_law__422 : decode cL_law_ 422 = .ok (.iconst 1, 1) := by decide +kernel
theorem dl_law__423 : decode cL_law_ 423 = .ok (.iadd, 1) := by decide +kernel
theorem dl_law__424 : decode cL_law_ 424 = .ok (.iaload, 1) := by decide +kernel
theorem dl_law__425 : decode cL_law_ 425 = .ok (.invokevirtual 143, 3) := by decide +kernel
theorem dl_law__428 : decode cL_law_ 428 = .ok (.istore 6, 2) := by decide +kernel
theorem dl_law__430 : decode cL_law_ 430 = .ok (.aload_n 2, 1) := by decide +kernel
theorem dl_law__431 : decode cL_law_ 431 = .ok (.invokevirtual 134, 3) := by decide +kernel
theorem dl_law__434 : decode cL_law_ 434 = .ok (.iload 5, 2) := by decide +kernel
theorem dl_law__436 : decode cL_law_ 436 = .ok (.if_icmp .eq 5, 3) := by decide +kernel
theorem dl_law__441 : decode cL_law_ 441 = .ok (.iload 5, 2) := by decide +kernel
theorem dl_law__443 : decode cL_law_ 443 = .ok (.ifCond .ne 15, 3) := by decide +kernel
theorem dl_law__446 : decode cL_law_ 446 = .ok (.aload_n 3, 1) := by decide +kernel
theorem dl_law__447 : decode cL_law_ 447 = .ok (.iconst 0, 1) := by decide +kernel
theorem dl_law__448 : decode cL_law_ 448 = .ok (.laload, 1) := by decide +kernel
theorem dl_law__449 : decode cL_law_ 449 = .ok (.iload 6, 2) := by decide +kernel
theorem dl_law__451 : decode cL_law_ 451 = .ok (.i2l, 1) := by decide +kernel
theorem dl_law__452 : decode cL_law_ 452 = .ok (.lcmp, 1) := by decide +kernel
theorem dl_law__453 : decode cL_law_ 453 = .ok (.ifCond .eq 5, 3) := by decide +kernel
theorem dl_law__458 : decode cL_law_ 458 = .ok (.goto 2165, 3) := by decide +kernel
theorem dl_law__461 : decode cL_law_ 461 = .ok (.aload_n 1, 1) := by decide +kernel
theorem dl_law__462 : decode cL_law_ 462 = .ok (.aload_n 0, 1) := by decide +kernel
theorem dl_law__463 : decode cL_law_ 463 = .ok (.iload 4, 2) := by decide +kernel
theorem dl_law__465 : decode cL_law_ 465 = .ok (.iconst 1, 1) := by decide +kernel
theorem dl_law__466 : decode cL_law_ 466 = .ok (.iadd, 1) := by decide +kernel
theorem dl_law__467 : decode cL_law_ 467 = .ok (.iaload, 1) := by decide +kernel
theorem dl_law__468 : decode cL_law_ 468 = .ok (.aload_n 3, 1) := by decide +kernel
theorem dl_law__469 : decode cL_law_ 469 = .ok (.invokestatic 144, 3) := by decide +kernel
theorem dl_law__472 : decode cL_law_ 472 = .ok (.istore 5, 2) := by decide +kernel
theorem dl_law__474 : decode cL_law_ 474 = .ok (.aload_n 2, 1) := by decide +kernel
theorem dl_law__475 : decode cL_law_ 475 = .ok (.aload_n 0, 1) := by decide +kernel
theorem dl_law__476 : decode cL_law_ 476 = .ok (.iload 4, 2) := by decide +kernel
theorem dl_law__478 : decode cL_law_ 478 = .ok (.iconst 1, 1) := by decide +kernel
theorem dl_law__479 : decode cL_law_ 479 = .ok (.iadd, 1) := by decide +kernel
theorem dl_law__480 : decode cL_law_ 480 = .ok (.iaload, 1) := by decide +kernel
theorem dl_law__481 : decode cL_law_ 481 = .ok (.invokevirtual 146, 3) := by decide +kernel
theorem dl_law__484 : decode cL_law_ 484 = .ok (.istore 6, 2) := by decide +kernel
theorem dl_law__486 : decode cL_law_ 486 = .ok (.aload_n 2, 1) := by decide +kernel
theorem dl_law__487 : decode cL_law_ 487 = .ok (.invokevirtual 134, 3) := by decide +kernel
theorem dl_law__490 : decode cL_law_ 490 = .ok (.iload 5, 2) := by decide +kernel
theorem dl_law__492 : decode cL_law_ 492 = .ok (.if_icmp .eq 5, 3) := by decide +kernel
theorem dl_law__497 : decode cL_law_ 497 = .ok (.iload 5, 2) := by decide +kernel
theorem dl_law__499 : decode cL_law_ 499 = .ok (.ifCond .ne 15, 3) := by decide +kernel
theorem dl_law__502 : decode cL_law_ 502 = .ok (.aload_n 3, 1) := by decide +kernel
theorem dl_law__503 : decode cL_law_ 503 = .ok (.iconst 0, 1) := by decide +kernel
theorem dl_law__504 : decode cL_law_ 504 = .ok (.laload, 1) := by decide +kernel
theorem dl_law__505 : decode cL_law_ 505 = .ok (.iload 6, 2) := by decide +kernel
theorem dl_law__507 : decode cL_law_ 507 = .ok (.i2l, 1) := by decide +kernel
theorem dl_law__508 : decode cL_law_ 508 = .ok (.lcmp, 1) := by decide +kernel
theorem dl_law__509 : decode cL_law_ 509 = .ok (.ifCond .eq 5, 3) := by decide +kernel
theorem dl_law__514 : decode cL_law_ 514 = .ok (.goto 2109, 3) := by decide +kernel
theorem dl_law__517 : decode cL_law_ 517 = .ok (.aload_n 1, 1) := by decide +kernel
theorem dl_law__518 : decode cL_law_ 518 = .ok (.invokevirtual 147, 3) := by decide +kernel
theorem dl_law__521 : decode cL_law_ 521 = .ok (.aload_n 2, 1) := by decide +kernel
theorem dl_law__522 : decode cL_law_ 522 = .ok (.invokevirtual 150, 3) := by decide +kernel
theorem dl_law__525 : decode cL_law_ 525 = .ok (.if_icmp .eq 2098, 3) := by decide +kernel
theorem dl_law__530 : decode cL_law_ 530 = .ok (.aload_n 1, 1) := by decide +kernel
theorem dl_law__531 : decode cL_law_ 531 = .ok (.invokevirtual 151, 3) := by decide +kernel
theorem dl_law__534 : decode cL_law_ 534 = .ok (.aload_n 2, 1) := by decide +kernel
theorem dl_law__535 : decode cL_law_ 535 = .ok (.invokevirtual 154, 3) := by decide +kernel
theorem dl_law__538 : decode cL_law_ 538 = .ok (.if_icmp .eq 2085, 3) := by decide +kernel
theorem dl_law__543 : decode cL_law_ 543 = .ok (.aload_n 1, 1) := by decide +kernel
theorem dl_law__544 : decode cL_law_ 544 = .ok (.aload_n 0, 1) := by decide +kernel
theorem dl_law__545 : decode cL_law_ 545 = .ok (.iload 4, 2) := by decide +kernel
theorem dl_law__547 : decode cL_law_ 547 = .ok (.iconst 1, 1) := by decide +kernel
theorem dl_law__548 : decode cL_law_ 548 = .ok (.iadd, 1) := by decide +kernel
theorem dl_law__549 : decode cL_law_ 549 = .ok (.iaload, 1) := by decide +kernel
theorem dl_law__550 : decode cL_law_ 550 = .ok (.aload_n 3, 1) := by decide +kernel
theorem dl_law__551 : decode cL_law_ 551 = .ok (.invokestatic 155, 3) := by decide +kernel
theorem dl_law__554 : decode cL_law_ 554 = .ok (.istore 5, 2) := by decide +kernel
theorem dl_law__556 : decode cL_law_ 556 = .ok (.aload_n 2, 1) := by decide +kernel
theorem dl_law__557 : decode cL_law_ 557 = .ok (.aload_n 0, 1) := by decide +kernel
theorem dl_law__558 : decode cL_law_ 558 = .ok (.iload 4, 2) := by decide +kernel
theorem dl_law__560 : decode cL_law_ 560 = .ok (.iconst 1, 1) := by decide +kernel
theorem dl_law__561 : decode cL_law_ 561 = .ok (.iadd, 1) := by decide +kernel
theorem dl_law__562 : decode cL_law_ 562 = .ok (.iaload, 1) := by decide +kernel
theorem dl_law__563 : decode cL_law_ 563 = .ok (.invokevirtual 157, 3) := by decide +kernel
theorem dl_law__566 : decode cL_law_ 566 = .ok (.istore 6, 2) := by decide +kernel
theorem dl_law__568 : decode cL_law_ 568 = .ok (.aload_n 2, 1) := by decide +kernel
theorem dl_law__569 : decode cL_law_ 569 = .ok (.invokevirtual 134, 3) := by decide +kernel
theorem dl_law__572 : decode cL_law_ 572 = .ok (.iload 5, 2) := by decide +kernel
theorem dl_law__574 : decode cL_law_ 574 = .ok (.if_icmp .eq 5, 3) := by decide +kernel
theorem dl_law__579 : decode cL_law_ 579 = .ok (.iload 5, 2) := by decide +kernel
theorem dl_law__581 : decode cL_law_ 581 = .ok (.ifCond .ne 15, 3) := by decide +kernel
theorem dl_law__584 : decode cL_law_ 584 = .ok (.aload_n 3, 1) := by decide +kernel
theorem dl_law__585 : decode cL_law_ 585 = .ok (.iconst 0, 1) := by decide +kernel
theorem dl_law__586 : decode cL_law_ 586 = .ok (.laload, 1) := by decide +kernel
theorem dl_law__587 : decode cL_law_ 587 = .ok (.iload 6, 2) := by decide +kernel
theorem dl_law__589 : decode cL_law_ 589 = .ok (.i2l, 1) := by decide +kernel
theorem dl_law__590 : decode cL_law_ 590 = .ok (.lcmp, 1) := by decide +kernel
theorem dl_law__591 : decode cL_law_ 591 = .ok (.ifCond .eq 5, 3) := by decide +kernel
theorem dl_law__596 : decode cL_law_ 596 = .ok (.goto 2027, 3) := by decide +kernel
theorem dl_law__599 : decode cL_law_ 599 = .ok (.aload_n 1, 1) := by decide +kernel
theorem dl_law__600 : decode cL_law_ 600 = .ok (.aload_n 0, 1) := by decide +kernel
theorem dl_law__601 : decode cL_law_ 601 = .ok (.iload 4, 2) := by decide +kernel
theorem dl_law__603 : decode cL_law_ 603 = .ok (.iconst 1, 1) := by decide +kernel
theorem dl_law__604 : decode cL_law_ 604 = .ok (.iadd, 1) := by decide +kernel
theorem dl_law__605 : decode cL_law_ 605 = .ok (.iaload, 1) := by decide +kernel
theorem dl_law__606 : decode cL_law_ 606 = .ok (.aload_n 0, 1) := by decide +kernel
theorem dl_law__607 : decode cL_law_ 607 = .ok (.iload 4, 2) := by decide +kernel
theorem dl_law__609 : decode cL_law_ 609 = .ok (.iconst 2, 1) := by decide +kernel
theorem dl_law__610 : decode cL_law_ 610 = .ok (.iadd, 1) := by decide +kernel
theorem dl_law__611 : decode cL_law_ 611 = .ok (.iaload, 1) := by decide +kernel
theorem dl_law__612 : decode cL_law_ 612 = .ok (.aload_n 3, 1) := by decide +kernel
theorem dl_law__613 : decode cL_law_ 613 = .ok (.invokestatic 158, 3) := by decide +kernel
theorem dl_law__616 : decode cL_law_ 616 = .ok (.istore 5, 2) := by decide +kernel
theorem dl_law__618 : decode cL_law_ 618 = .ok (.aload_n 2, 1) := by decide +kernel
theorem dl_law__619 : decode cL_law_ 619 = .ok (.aload_n 0, 1) := by decide +kernel
theorem dl_law__620 : decode cL_law_ 620 = .ok (.iload 4, 2) := by decide +kernel
theorem dl_law__622 : decode cL_law_ 622 = .ok (.iconst 1, 1) := by decide +kernel
theorem dl_law__623 : decode cL_law_ 623 = .ok (.iadd, 1) := by decide +kernel
theorem dl_law__624 : decode cL_law_ 624 = .ok (.iaload, 1) := by decide +kernel
theorem dl_law__625 : decode cL_law_ 625 = .ok (.aload_n 0, 1) := by decide +kernel
theorem dl_law__626 : decode cL_law_ 626 = .ok (.iload 4, 2) := by decide +kernel
theorem dl_law__628 : decode cL_law_ 628 = .ok (.iconst 2, 1) := by decide +kernel
theorem dl_law__629 : decode cL_law_ 629 = .ok (.iadd, 1) := by decide +kernel
theorem dl_law__630 : decode cL_law_ 630 = .ok (.iaload, 1) := by decide +kernel
theorem dl_law__631 : decode cL_law_ 631 = .ok (.invokevirtual 161, 3) := by decide +kernel
theorem dl_law__634 : decode cL_law_ 634 = .ok (.istore 6, 2) := by decide +kernel
theorem dl_law__636 : decode cL_law_ 636 = .ok (.aload_n 2, 1) := by decide +kernel
theorem dl_law__637 : decode cL_law_ 637 = .ok (.invokevirtual 134, 3) := by decide +kernel
theorem dl_law__640 : decode cL_law_ 640 = .ok (.iload 5, 2) := by decide +kernel
theorem dl_law__642 : decode cL_law_ 642 = .ok (.if_icmp .eq 5, 3) := by decide +kernel
theorem dl_law__647 : decode cL_law_ 647 = .ok (.iload 5, 2) := by decide +kernel
theorem dl_law__649 : decode cL_law_ 649 = .ok (.ifCond .ne 15, 3) := by decide +kernel
theorem dl_law__652 : decode cL_law_ 652 = .ok (.aload_n 3, 1) := by decide +kernel
theorem dl_law__653 : decode cL_law_ 653 = .ok (.iconst 0, 1) := by decide +kernel
theorem dl_law__654 : decode cL_law_ 654 = .ok (.laload, 1) := by decide +kernel
theorem dl_law__655 : decode cL_law_ 655 = .ok (.iload 6, 2) := by decide +kernel
theorem dl_law__657 : decode cL_law_ 657 = .ok (.i2l, 1) := by decide +kernel
theorem dl_law__658 : decode cL_law_ 658 = .ok (.lcmp, 1) := by decide +kernel
theorem dl_law__659 : decode cL_law_ 659 = .ok (.ifCond .eq 5, 3) := by decide +kernel
theorem dl_law__664 : decode cL_law_ 664 = .ok (.goto 1959, 3) := by decide +kernel
theorem dl_law__667 : decode cL_law_ 667 = .ok (.aload_n 1, 1) := by decide +kernel
theorem dl_law__668 : decode cL_law_ 668 = .ok (.aload_n 0, 1) := by decide +kernel
theorem dl_law__669 : decode cL_law_ 669 = .ok (.iload 4, 2) := by decide +kernel
theorem dl_law__671 : decode cL_law_ 671 = .ok (.iconst 1, 1) := by decide +kernel
theorem dl_law__672 : decode cL_law_ 672 = .ok (.iadd, 1) := by decide +kernel
theorem dl_law__673 : decode cL_law_ 673 = .ok (.iaload, 1) := by decide +kernel
theorem dl_law__674 : decode cL_law_ 674 = .ok (.aload_n 0, 1) := by decide +kernel
theorem dl_law__675 : decode cL_law_ 675 = .ok (.iload 4, 2) := by decide +kernel
theorem dl_law__677 : decode cL_law_ 677 = .ok (.iconst 2, 1) := by decide +kernel
theorem dl_law__678 : decode cL_law_ 678 = .ok (.iadd, 1) := by decide +kernel
theorem dl_law__679 : decode cL_law_ 679 = .ok (.iaload, 1) := by decide +kernel
theorem dl_law__680 : decode cL_law_ 680 = .ok (.aload_n 3, 1) := by decide +kernel
theorem dl_law__681 : decode cL_law_ 681 = .ok (.invokestatic 162, 3) := by decide +kernel
theorem dl_law__684 : decode cL_law_ 684 = .ok (.istore 5, 2) := by decide +kernel
theorem dl_law__686 : decode cL_law_ 686 = .ok (.aload_n 2, 1) := by decide +kernel
theorem dl_law__687 : decode cL_law_ 687 = .ok (.aload_n 0, 1) := by decide +kernel
theorem dl_law__688 : decode cL_law_ 688 = .ok (.iload 4, 2) := by decide +kernel
theorem dl_law__690 : decode cL_law_ 690 = .ok (.iconst 1, 1) := by decide +kernel
theorem dl_law__691 : decode cL_law_ 691 = .ok (.iadd, 1) := by decide +kernel
theorem dl_law__692 : decode cL_law_ 692 = .ok (.iaload, 1) := by decide +kernel
theorem dl_law__693 : decode cL_law_ 693 = .ok (.aload_n 0, 1) := by decide +kernel
theorem dl_law__694 : decode cL_law_ 694 = .ok (.iload 4, 2) := by decide +kernel
theorem dl_law__696 : decode cL_law_ 696 = .ok (.iconst 2, 1) := by decide +kernel
theorem dl_law__697 : decode cL_law_ 697 = .ok (.iadd, 1) := by decide +kernel
theorem dl_law__698 : decode cL_law_ 698 = .ok (.iaload, 1) := by decide +kernel
theorem dl_law__699 : decode cL_law_ 699 = .ok (.invokevirtual 164, 3) := by decide +kernel
theorem dl_law__702 : decode cL_law_ 702 = .ok (.istore 6, 2) := by decide +kernel
theorem dl_law__704 : decode cL_law_ 704 = .ok (.aload_n 2, 1) := by decide +kernel
theorem dl_law__705 : decode cL_law_ 705 = .ok (.invokevirtual 134, 3) := by decide +kernel
theorem dl_law__708 : decode cL_law_ 708 = .ok (.iload 5, 2) := by decide +kernel
theorem dl_law__710 : decode cL_law_ 710 = .ok (.if_icmp .eq 5, 3) := by decide +kernel
theorem dl_law__715 : decode cL_law_ 715 = .ok (.iload 5, 2) := by decide +kernel
theorem dl_law__717 : decode cL_law_ 717 = .ok (.ifCond .ne 15, 3) := by decide +kernel
theorem dl_law__720 : decode cL_law_ 720 = .ok (.aload_n 3, 1) := by decide +kernel
theorem dl_law__721 : decode cL_law_ 721 = .ok (.iconst 0, 1) := by decide +kernel
theorem dl_law__722 : decode cL_law_ 722 = .ok (.laload, 1) := by decide +kernel
theorem dl_law__723 : decode cL_law_ 723 = .ok (.iload 6, 2) := by decide +kernel
theorem dl_law__725 : decode cL_law_ 725 = .ok (.i2l, 1) := by decide +kernel
theorem dl_law__726 : decode cL_law_ 726 = .ok (.lcmp, 1) := by decide +kernel
theorem dl_law__727 : decode cL_law_ 727 = .ok (.ifCond .eq 5, 3) := by decide +kernel
theorem dl_law__732 : decode cL_law_ 732 = .ok (.goto 1891, 3) := by decide +kernel
theorem dl_law__735 : decode cL_law_ 735 = .ok (.aload_n 1, 1) := by decide +kernel
theorem dl_law__736 : decode cL_law_ 736 = .ok (.aload_n 0, 1) := by decide +kernel
theorem dl_law__737 : decode cL_law_ 737 = .ok (.iload 4, 2) := by decide +kernel
theorem dl_law__739 : decode cL_law_ 739 = .ok (.iconst 1, 1) := by decide +kernel
theorem dl_law__740 : decode cL_law_ 740 = .ok (.iadd, 1) := by decide +kernel
theorem dl_law__741 : decode cL_law_ 741 = .ok (.iaload, 1) := by decide +kernel
theorem dl_law__742 : decode cL_law_ 742 = .ok (.aload_n 0, 1) := by decide +kernel
theorem dl_law__743 : decode cL_law_ 743 = .ok (.iload 4, 2) := by decide +kernel
theorem dl_law__745 : decode cL_law_ 745 = .ok (.iconst 2, 1) := by decide +kernel
theorem dl_law__746 : decode cL_law_ 746 = .ok (.iadd, 1) := by decide +kernel
theorem dl_law__747 : decode cL_law_ 747 = .ok (.iaload, 1) := by decide +kernel
theorem dl_law__748 : decode cL_law_ 748 = .ok (.aload_n 0, 1) := by decide +kernel
theorem dl_law__749 : decode cL_law_ 749 = .ok (.iload 4, 2) := by decide +kernel
theorem dl_law__751 : decode cL_law_ 751 = .ok (.iconst 3, 1) := by decide +kernel
theorem dl_law__752 : decode cL_law_ 752 = .ok (.iadd, 1) := by decide +kernel
theorem dl_law__753 : decode cL_law_ 753 = .ok (.iaload, 1) := by decide +kernel
theorem dl_law__754 : decode cL_law_ 754 = .ok (.aload_n 0, 1) := by decide +kernel
theorem dl_law__755 : decode cL_law_ 755 = .ok (.iload 4, 2) := by decide +kernel
theorem dl_law__757 : decode cL_law_ 757 = .ok (.iconst 4, 1) := by decide +kernel
theorem dl_law__758 : decode cL_law_ 758 = .ok (.iadd, 1) := by decide +kernel
theorem dl_law__759 : decode cL_law_ 759 = .ok (.iaload, 1) := by decide +kernel
theorem dl_law__760 : decode cL_law_ 760 = .ok (.aload_n 0, 1) := by decide +kernel
theorem dl_law__761 : decode cL_law_ 761 = .ok (.iload 4, 2) := by decide +kernel
theorem dl_law__763 : decode cL_law_ 763 = .ok (.iconst 5, 1) := by decide +kernel
theorem dl_law__764 : decode cL_law_ 764 = .ok (.iadd, 1) := by decide +kernel
theorem dl_law__765 : decode cL_law_ 765 = .ok (.iaload, 1) := by decide +kernel
theorem dl_law__766 : decode cL_law_ 766 = .ok (.aload_n 0, 1) := by decide +kernel
theorem dl_law__767 : decode cL_law_ 767 = .ok (.iload 4, 2) := by decide +kernel
theorem dl_law__769 : decode cL_law_ 769 = .ok (.bipush 6, 2) := by decide +kernel
theorem dl_law__771 : decode cL_law_ 771 = .ok (.iadd, 1) := by decide +kernel
theorem dl_law__772 : decode cL_law_ 772 = .ok (.iaload, 1) := by decide +kernel
theorem dl_law__773 : decode cL_law_ 773 = .ok (.aload_n 0, 1) := by decide +kernel
theorem dl_law__774 : decode cL_law_ 774 = .ok (.iload 4, 2) := by decide +kernel
theorem dl_law__776 : decode cL_law_ 776 = .ok (.bipush 7, 2) := by decide +kernel
theorem dl_law__778 : decode cL_law_ 778 = .ok (.iadd, 1) := by decide +kernel
theorem dl_law__779 : decode cL_law_ 779 = .ok (.iaload, 1) := by decide +kernel
theorem dl_law__780 : decode cL_law_ 780 = .ok (.aload_n 0, 1) := by decide +kernel
theorem dl_law__781 : decode cL_law_ 781 = .ok (.iload 4, 2) := by decide +kernel
theorem dl_law__783 : decode cL_law_ 783 = .ok (.bipush 8, 2) := by decide +kernel
theorem dl_law__785 : decode cL_law_ 785 = .ok (.iadd, 1) := by decide +kernel
theorem dl_law__786 : decode cL_law_ 786 = .ok (.iaload, 1) := by decide +kernel
theorem dl_law__787 : decode cL_law_ 787 = .ok (.aload_n 3, 1) := by decide +kernel
theorem dl_law__788 : decode cL_law_ 788 = .ok (.invokestatic 165, 3) := by decide +kernel
theorem dl_law__791 : decode cL_law_ 791 = .ok (.istore 5, 2) := by decide +kernel
theorem dl_law__793 : decode cL_law_ 793 = .ok (.aload_n 2, 1) := by decide +kernel
theorem dl_law__794 : decode cL_law_ 794 = .ok (.aload_n 0, 1) := by decide +kernel
theorem dl_law__795 : decode cL_law_ 795 = .ok (.iload 4, 2) := by decide +kernel
theorem dl_law__797 : decode cL_law_ 797 = .ok (.iconst 1, 1) := by decide +kernel
theorem dl_law__798 : decode cL_law_ 798 = .ok (.iadd, 1) := by decide +kernel
theorem dl_law__799 : decode cL_law_ 799 = .ok (.iaload, 1) := by decide +kernel
theorem dl_law__800 : decode cL_law_ 800 = .ok (.aload_n 0, 1) := by decide +kernel
theorem dl_law__801 : decode cL_law_ 801 = .ok (.iload 4, 2) := by decide +kernel
theorem dl_law__803 : decode cL_law_ 803 = .ok (.iconst 2, 1) := by decide +kernel
theorem dl_law__804 : decode cL_law_ 804 = .ok (.iadd, 1) := by decide +kernel
theorem dl_law__805 : decode cL_law_ 805 = .ok (.iaload, 1) := by decide +kernel
theorem dl_law__806 : decode cL_law_ 806 = .ok (.aload_n 0, 1) := by decide +kernel
theorem dl_law__807 : decode cL_law_ 807 = .ok (.iload 4, 2) := by decide +kernel
theorem dl_law__809 : decode cL_law_ 809 = .ok (.iconst 3, 1) := by decide +kernel
theorem dl_law__810 : decode cL_law_ 810 = .ok (.iadd, 1) := by decide +kernel
theorem dl_law__811 : decode cL_law_ 811 = .ok (.iaload, 1) := by decide +kernel
theorem dl_law__812 : decode cL_law_ 812 = .ok (.aload_n 0, 1) := by decide +kernel
theorem dl_law__813 : decode cL_law_ 813 = .ok (.iload 4, 2) := by decide +kernel
theorem dl_law__815 : decode cL_law_ 815 = .ok (.iconst 4, 1) := by decide +kernel
theorem dl_law__816 : decode cL_law_ 816 = .ok (.iadd, 1) := by decide +kernel
theorem dl_law__817 : decode cL_law_ 817 = .ok (.iaload, 1) := by decide +kernel
theorem dl_law__818 : decode cL_law_ 818 = .ok (.aload_n 0, 1) := by decide +kernel
theorem dl_law__819 : decode cL_law_ 819 = .ok (.iload 4, 2) := by decide +kernel
theorem dl_law__821 : decode cL_law_ 821 = .ok (.iconst 5, 1) := by decide +kernel
theorem dl_law__822 : decode cL_law_ 822 = .ok (.iadd, 1) := by decide +kernel
theorem dl_law__823 : decode cL_law_ 823 = .ok (.iaload, 1) := by decide +kernel
theorem dl_law__824 : decode cL_law_ 824 = .ok (.aload_n 0, 1) := by decide +kernel
theorem dl_law__825 : decode cL_law_ 825 = .ok (.iload 4, 2) := by decide +kernel
theorem dl_law__827 : decode cL_law_ 827 = .ok (.bipush 6, 2) := by decide +kernel
theorem dl_law__829 : decode cL_law_ 829 = .ok (.iadd, 1) := by decide +kernel
theorem dl_law__830 : decode cL_law_ 830 = .ok (.iaload, 1) := by decide +kernel
theorem dl_law__831 : decode cL_law_ 831 = .ok (.aload_n 0, 1) := by decide +kernel
theorem dl_law__832 : decode cL_law_ 832 = .ok (.iload 4, 2) := by decide +kernel
theorem dl_law__834 : decode cL_law_ 834 = .ok (.bipush 7, 2) := by decide +kernel
theorem dl_law__836 : decode cL_law_ 836 = .ok (.iadd, 1) := by decide +kernel
theorem dl_law__837 : decode cL_law_ 837 = .ok (.iaload, 1) := by decide +kernel
theorem dl_law__838 : decode cL_law_ 838 = .ok (.aload_n 0, 1) := by decide +kernel
theorem dl_law__839 : decode cL_law_ 839 = .ok (.iload 4, 2) := by decide +kernel
theorem dl_law__841 : decode cL_law_ 841 = .ok (.bipush 8, 2) := by decide +kernel
theorem dl_law__843 : decode cL_law_ 843 = .ok (.iadd, 1) := by decide +kernel
theorem dl_law__844 : decode cL_law_ 844 = .ok (.iaload, 1) := by decide +kernel
theorem dl_law__845 : decode cL_law_ 845 = .ok (.invokevirtual 168, 3) := by decide +kernel
theorem dl_law__848 : decode cL_law_ 848 = .ok (.istore 6, 2) := by decide +kernel
theorem dl_law__850 : decode cL_law_ 850 = .ok (.aload_n 2, 1) := by decide +kernel
theorem dl_law__851 : decode cL_law_ 851 = .ok (.invokevirtual 134, 3) := by decide +kernel
theorem dl_law__854 : decode cL_law_ 854 = .ok (.iload 5, 2) := by decide +kernel
theorem dl_law__856 : decode cL_law_ 856 = .ok (.if_icmp .eq 5, 3) := by decide +kernel
theorem dl_law__861 : decode cL_law_ 861 = .ok (.iload 5, 2) := by decide +kernel
theorem dl_law__863 : decode cL_law_ 863 = .ok (.ifCond .ne 15, 3) := by decide +kernel
theorem dl_law__866 : decode cL_law_ 866 = .ok (.aload_n 3, 1) := by decide +kernel
theorem dl_law__867 : decode cL_law_ 867 = .ok (.iconst 0, 1) := by decide +kernel
theorem dl_law__868 : decode cL_law_ 868 = .ok (.laload, 1) := by decide +kernel
theorem dl_law__869 : decode cL_law_ 869 = .ok (.iload 6, 2) := by decide +kernel
theorem dl_law__871 : decode cL_law_ 871 = .ok (.i2l, 1) := by decide +kernel
theorem dl_law__872 : decode cL_law_ 872 = .ok (.lcmp, 1) := by decide +kernel
theorem dl_law__873 : decode cL_law_ 873 = .ok (.ifCond .eq 5, 3) := by decide +kernel
theorem dl_law__878 : decode cL_law_ 878 = .ok (.goto 1745, 3) := by decide +kernel
theorem dl_law__881 : decode cL_law_ 881 = .ok (.aload_n 1, 1) := by decide +kernel
theorem dl_law__882 : decode cL_law_ 882 = .ok (.aload_n 0, 1) := by decide +kernel
theorem dl_law__883 : decode cL_law_ 883 = .ok (.iload 4, 2) := by decide +kernel
theorem dl_law__885 : decode cL_law_ 885 = .ok (.iconst 1, 1) := by decide +kernel
theorem dl_law__886 : decode cL_law_ 886 = .ok (.iadd, 1) := by decide +kernel
theorem dl_law__887 : decode cL_law_ 887 = .ok (.iaload, 1) := by decide +kernel
theorem dl_law__888 : decode cL_law_ 888 = .ok (.aload_n 0, 1) := by decide +kernel
theorem dl_law__889 : decode cL_law_ 889 = .ok (.iload 4, 2) := by decide +kernel
theorem dl_law__891 : decode cL_law_ 891 = .ok (.iconst 2, 1) := by decide +kernel
theorem dl_law__892 : decode cL_law_ 892 = .ok (.iadd, 1) := by decide +kernel
theorem dl_law__893 : decode cL_law_ 893 = .ok (.iaload, 1) := by decide +kernel
theorem dl_law__894 : decode cL_law_ 894 = .ok (.aload_n 3, 1) := by decide +kernel
theorem dl_law__895 : decode cL_law_ 895 = .ok (.invokestatic 169, 3) := by decide +kernel
theorem dl_law__898 : decode cL_law_ 898 = .ok (.istore 5, 2) := by decide +kernel
theorem dl_law__900 : decode cL_law_ 900 = .ok (.aload_n 2, 1) := by decide +kernel
theorem dl_law__901 : decode cL_law_ 901 = .ok (.aload_n 0, 1) := by decide +kernel
theorem dl_law__902 : decode cL_law_ 902 = .ok (.iload 4, 2) := by decide +kernel
theorem dl_law__904 : decode cL_law_ 904 = .ok (.iconst 1, 1) := by decide +kernel
theorem dl_law__905 : decode cL_law_ 905 = .ok (.iadd, 1) := by decide +kernel
theorem dl_law__906 : decode cL_law_ 906 = .ok (.iaload, 1) := by decide +kernel
theorem dl_law__907 : decode cL_law_ 907 = .ok (.aload_n 0, 1) := by decide +kernel
theorem dl_law__908 : decode cL_law_ 908 = .ok (.iload 4, 2) := by decide +kernel
theorem dl_law__910 : decode cL_law_ 910 = .ok (.iconst 2, 1) := by decide +kernel
theorem dl_law__911 : decode cL_law_ 911 = .ok (.iadd, 1) := by decide +kernel
theorem dl_law__912 : decode cL_law_ 912 = .ok (.iaload, 1) := by decide +kernel
theorem dl_law__913 : decode cL_law_ 913 = .ok (.invokevirtual 171, 3) := by decide +kernel
theorem dl_law__916 : decode cL_law_ 916 = .ok (.istore 6, 2) := by decide +kernel
theorem dl_law__918 : decode cL_law_ 918 = .ok (.aload_n 2, 1) := by decide +kernel
theorem dl_law__919 : decode cL_law_ 919 = .ok (.invokevirtual 134, 3) := by decide +kernel
theorem dl_law__922 : decode cL_law_ 922 = .ok (.iload 5, 2) := by decide +kernel
theorem dl_law__924 : decode cL_law_ 924 = .ok (.if_icmp .eq 5, 3) := by decide +kernel
theorem dl_law__929 : decode cL_law_ 929 = .ok (.iload 5, 2) := by decide +kernel
theorem dl_law__931 : decode cL_law_ 931 = .ok (.ifCond .ne 15, 3) := by decide +kernel
theorem dl_law__934 : decode cL_law_ 934 = .ok (.aload_n 3, 1) := by decide +kernel
theorem dl_law__935 : decode cL_law_ 935 = .ok (.iconst 0, 1) := by decide +kernel
theorem dl_law__936 : decode cL_law_ 936 = .ok (.laload, 1) := by decide +kernel
theorem dl_law__937 : decode cL_law_ 937 = .ok (.iload 6, 2) := by decide +kernel
theorem dl_law__939 : decode cL_law_ 939 = .ok (.i2l, 1) := by decide +kernel
theorem dl_law__940 : decode cL_law_ 940 = .ok (.lcmp, 1) := by decide +kernel
theorem dl_law__941 : decode cL_law_ 941 = .ok (.ifCond .eq 5, 3) := by decide +kernel
theorem dl_law__946 : decode cL_law_ 946 = .ok (.goto 1677, 3) := by decide +kernel
theorem dl_law__949 : decode cL_law_ 949 = .ok (.aload_n 1, 1) := by decide +kernel
theorem dl_law__950 : decode cL_law_ 950 = .ok (.aload_n 0, 1) := by decide +kernel
theorem dl_law__951 : decode cL_law_ 951 = .ok (.iload 4, 2) := by decide +kernel
theorem dl_law__953 : decode cL_law_ 953 = .ok (.iconst 1, 1) := by decide +kernel
theorem dl_law__954 : decode cL_law_ 954 = .ok (.iadd, 1) := by decide +kernel
theorem dl_law__955 : decode cL_law_ 955 = .ok (.iaload, 1) := by decide +kernel
theorem dl_law__956 : decode cL_law_ 956 = .ok (.aload_n 3, 1) := by decide +kernel
theorem dl_law__957 : decode cL_law_ 957 = .ok (.invokestatic 172, 3) := by decide +kernel
theorem dl_law__960 : decode cL_law_ 960 = .ok (.istore 5, 2) := by decide +kernel
theorem dl_law__962 : decode cL_law_ 962 = .ok (.aload_n 2, 1) := by decide +kernel
theorem dl_law__963 : decode cL_law_ 963 = .ok (.aload_n 0, 1) := by decide +kernel
theorem dl_law__964 : decode cL_law_ 964 = .ok (.iload 4, 2) := by decide +kernel
theorem dl_law__966 : decode cL_law_ 966 = .ok (.iconst 1, 1) := by decide +kernel
theorem dl_law__967 : decode cL_law_ 967 = .ok (.iadd, 1) := by decide +kernel
theorem dl_law__968 : decode cL_law_ 968 = .ok (.iaload, 1) := by decide +kernel
theorem dl_law__969 : decode cL_law_ 969 = .ok (.invokevirtual 174, 3) := by decide +kernel
theorem dl_law__972 : decode cL_law_ 972 = .ok (.istore 6, 2) := by decide +kernel
theorem dl_law__974 : decode cL_law_ 974 = .ok (.aload_n 2, 1) := by decide +kernel
theorem dl_law__975 : decode cL_law_ 975 = .ok (.invokevirtual 134, 3) := by decide +kernel
theorem dl_law__978 : decode cL_law_ 978 = .ok (.iload 5, 2) := by decide +kernel
theorem dl_law__980 : decode cL_law_ 980 = .ok (.if_icmp .eq 5, 3) := by decide +kernel
theorem dl_law__985 : decode cL_law_ 985 = .ok (.iload 5, 2) := by decide +kernel
theorem dl_law__987 : decode cL_law_ 987 = .ok (.ifCond .ne 15, 3) := by decide +kernel
theorem dl_law__990 : decode cL_law_ 990 = .ok (.aload_n 3, 1) := by decide +kernel
theorem dl_law__991 : decode cL_law_ 991 = .ok (.iconst 0, 1) := by decide +kernel
theorem dl_law__992 : decode cL_law_ 992 = .ok (.laload, 1) := by decide +kernel
theorem dl_law__993 : decode cL_law_ 993 = .ok (.iload 6, 2) := by decide +kernel
theorem dl_law__995 : decode cL_law_ 995 = .ok (.i2l, 1) := by decide +kernel
theorem dl_law__996 : decode cL_law_ 996 = .ok (.lcmp, 1) := by decide +kernel
theorem dl_law__997 : decode cL_law_ 997 = .ok (.ifCond .eq 5, 3) := by decide +kernel
theorem dl_law__1002 : decode cL_law_ 1002 = .ok (.goto 1621, 3) := by decide +kernel
theorem dl_law__1005 : decode cL_law_ 1005 = .ok (.aload_n 1, 1) := by decide +kernel
theorem dl_law__1006 : decode cL_law_ 1006 = .ok (.aload_n 0, 1) := by decide +kernel
theorem dl_law__1007 : decode cL_law_ 1007 = .ok (.iload 4, 2) := by decide +kernel
theorem dl_law__1009 : decode cL_law_ 1009 = .ok (.iconst 1, 1) := by decide +kernel
theorem dl_law__1010 : decode cL_law_ 1010 = .ok (.iadd, 1) := by decide +kernel
theorem dl_law__1011 : decode cL_law_ 1011 = .ok (.iaload, 1) := by decide +kernel
theorem dl_law__1012 : decode cL_law_ 1012 = .ok (.aload_n 0, 1) := by decide +kernel
theorem dl_law__1013 : decode cL_law_ 1013 = .ok (.iload 4, 2) := by decide +kernel
theorem dl_law__1015 : decode cL_law_ 1015 = .ok (.iconst 2, 1) := by decide +kernel
theorem dl_law__1016 : decode cL_law_ 1016 = .ok (.iadd, 1) := by decide +kernel
theorem dl_law__1017 : decode cL_law_ 1017 = .ok (.iaload, 1) := by decide +kernel
theorem dl_law__1018 : decode cL_law_ 1018 = .ok (.aload_n 3, 1) := by decide +kernel
theorem dl_law__1019 : decode cL_law_ 1019 = .ok (.invokestatic 175, 3) := by decide +kernel
theorem dl_law__1022 : decode cL_law_ 1022 = .ok (.istore 5, 2) := by decide +kernel
theorem dl_law__1024 : decode cL_law_ 1024 = .ok (.aload_n 2, 1) := by decide +kernel
theorem dl_law__1025 : decode cL_law_ 1025 = .ok (.aload_n 0, 1) := by decide +kernel
theorem dl_law__1026 : decode cL_law_ 1026 = .ok (.iload 4, 2) := by decide +kernel
theorem dl_law__1028 : decode cL_law_ 1028 = .ok (.iconst 1, 1) := by decide +kernel
theorem dl_law__1029 : decode cL_law_ 1029 = .ok (.iadd, 1) := by decide +kernel
theorem dl_law__1030 : decode cL_law_ 1030 = .ok (.iaload, 1) := by decide +kernel
theorem dl_law__1031 : decode cL_law_ 1031 = .ok (.aload_n 0, 1) := by decide +kernel
theorem dl_law__1032 : decode cL_law_ 1032 = .ok (.iload 4, 2) := by decide +kernel
theorem dl_law__1034 : decode cL_law_ 1034 = .ok (.iconst 2, 1) := by decide +kernel
theorem dl_law__1035 : decode cL_law_ 1035 = .ok (.iadd, 1) := by decide +kernel
theorem dl_law__1036 : decode cL_law_ 1036 = .ok (.iaload, 1) := by decide +kernel
theorem dl_law__1037 : decode cL_law_ 1037 = .ok (.invokevirtual 177, 3) := by decide +kernel
theorem dl_law__1040 : decode cL_law_ 1040 = .ok (.istore 6, 2) := by decide +kernel
theorem dl_law__1042 : decode cL_law_ 1042 = .ok (.aload_n 2, 1) := by decide +kernel
theorem dl_law__1043 : decode cL_law_ 1043 = .ok (.invokevirtual 134, 3) := by decide +kernel
theorem dl_law__1046 : decode cL_law_ 1046 = .ok (.iload 5, 2) := by decide +kernel
theorem dl_law__1048 : decode cL_law_ 1048 = .ok (.if_icmp .eq 5, 3) := by decide +kernel
theorem dl_law__1053 : decode cL_law_ 1053 = .ok (.iload 5, 2) := by decide +kernel
theorem dl_law__1055 : decode cL_law_ 1055 = .ok (.ifCond .ne 15, 3) := by decide +kernel
theorem dl_law__1058 : decode cL_law_ 1058 = .ok (.aload_n 3, 1) := by decide +kernel
theorem dl_law__1059 : decode cL_law_ 1059 = .ok (.iconst 0, 1) := by decide +kernel
theorem dl_law__1060 : decode cL_law_ 1060 = .ok (.laload, 1) := by decide +kernel
theorem dl_law__1061 : decode cL_law_ 1061 = .ok (.iload 6, 2) := by decide +kernel
theorem dl_law__1063 : decode cL_law_ 1063 = .ok (.i2l, 1) := by decide +kernel
theorem dl_law__1064 : decode cL_law_ 1064 = .ok (.lcmp, 1) := by decide +kernel
theorem dl_law__1065 : decode cL_law_ 1065 = .ok (.ifCond .eq 5, 3) := by decide +kernel
theorem dl_law__1070 : decode cL_law_ 1070 = .ok (.goto 1553, 3) := by decide +kernel
theorem dl_law__1073 : decode cL_law_ 1073 = .ok (.aload_n 1, 1) := by decide +kernel
theorem dl_law__1074 : decode cL_law_ 1074 = .ok (.aload_n 0, 1) := by decide +kernel
theorem dl_law__1075 : decode cL_law_ 1075 = .ok (.iload 4, 2) := by decide +kernel
theorem dl_law__1077 : decode cL_law_ 1077 = .ok (.iconst 1, 1) := by decide +kernel
theorem dl_law__1078 : decode cL_law_ 1078 = .ok (.iadd, 1) := by decide +kernel
theorem dl_law__1079 : decode cL_law_ 1079 = .ok (.iaload, 1) := by decide +kernel
theorem dl_law__1080 : decode cL_law_ 1080 = .ok (.aload_n 0, 1) := by decide +kernel
theorem dl_law__1081 : decode cL_law_ 1081 = .ok (.iload 4, 2) := by decide +kernel
theorem dl_law__1083 : decode cL_law_ 1083 = .ok (.iconst 2, 1) := by decide +kernel
theorem dl_law__1084 : decode cL_law_ 1084 = .ok (.iadd, 1) := by decide +kernel
theorem dl_law__1085 : decode cL_law_ 1085 = .ok (.iaload, 1) := by decide +kernel
theorem dl_law__1086 : decode cL_law_ 1086 = .ok (.aload_n 3, 1) := by decide +kernel
theorem dl_law__1087 : decode cL_law_ 1087 = .ok (.invokestatic 178, 3) := by decide +kernel
theorem dl_law__1090 : decode cL_law_ 1090 = .ok (.istore 5, 2) := by decide +kernel
theorem dl_law__1092 : decode cL_law_ 1092 = .ok (.aload_n 2, 1) := by decide +kernel
theorem dl_law__1093 : decode cL_law_ 1093 = .ok (.aload_n 0, 1) := by decide +kernel
theorem dl_law__1094 : decode cL_law_ 1094 = .ok (.iload 4, 2) := by decide +kernel
theorem dl_law__1096 : decode cL_law_ 1096 = .ok (.iconst 1, 1) := by decide +kernel
theorem dl_law__1097 : decode cL_law_ 1097 = .ok (.iadd, 1) := by decide +kernel
theorem dl_law__1098 : decode cL_law_ 1098 = .ok (.iaload, 1) := by decide +kernel
theorem dl_law__1099 : decode cL_law_ 1099 = .ok (.aload_n 0, 1) := by decide +kernel
theorem dl_law__1100 : decode cL_law_ 1100 = .ok (.iload 4, 2) := by decide +kernel
theorem dl_law__1102 : decode cL_law_ 1102 = .ok (.iconst 2, 1) := by decide +kernel
theorem dl_law__1103 : decode cL_law_ 1103 = .ok (.iadd, 1) := by decide +kernel
theorem dl_law__1104 : decode cL_law_ 1104 = .ok (.iaload, 1) := by decide +kernel
theorem dl_law__1105 : decode cL_law_ 1105 = .ok (.invokevirtual 180, 3) := by decide +kernel
theorem dl_law__1108 : decode cL_law_ 1108 = .ok (.istore 6, 2) := by decide +kernel
theorem dl_law__1110 : decode cL_law_ 1110 = .ok (.aload_n 2, 1) := by decide +kernel
theorem dl_law__1111 : decode cL_law_ 1111 = .ok (.invokevirtual 134, 3) := by decide +kernel
theorem dl_law__1114 : decode cL_law_ 1114 = .ok (.iload 5, 2) := by decide +kernel
theorem dl_law__1116 : decode cL_law_ 1116 = .ok (.if_icmp .eq 5, 3) := by decide +kernel
theorem dl_law__1121 : decode cL_law_ 1121 = .ok (.iload 5, 2) := by decide +kernel
theorem dl_law__1123 : decode cL_law_ 1123 = .ok (.ifCond .ne 15, 3) := by decide +kernel
theorem dl_law__1126 : decode cL_law_ 1126 = .ok (.aload_n 3, 1) := by decide +kernel
theorem dl_law__1127 : decode cL_law_ 1127 = .ok (.iconst 0, 1) := by decide +kernel
theorem dl_law__1128 : decode cL_law_ 1128 = .ok (.laload, 1) := by decide +kernel
theorem dl_law__1129 : decode cL_law_ 1129 = .ok (.iload 6, 2) := by decide +kernel
theorem dl_law__1131 : decode cL_law_ 1131 = .ok (.i2l, 1) := by decide +kernel
theorem dl_law__1132 : decode cL_law_ 1132 = .ok (.lcmp, 1) := by decide +kernel
theorem dl_law__1133 : decode cL_law_ 1133 = .ok (.ifCond .eq 5, 3) := by decide +kernel
theorem dl_law__1138 : decode cL_law_ 1138 = .ok (.goto 1485, 3) := by decide +kernel
theorem dl_law__1141 : decode cL_law_ 1141 = .ok (.aload_n 1, 1) := by decide +kernel
theorem dl_law__1142 : decode cL_law_ 1142 = .ok (.aload_n 0, 1) := by decide +kernel
theorem dl_law__1143 : decode cL_law_ 1143 = .ok (.iload 4, 2) := by decide +kernel
theorem dl_law__1145 : decode cL_law_ 1145 = .ok (.iconst 1, 1) := by decide +kernel
theorem dl_law__1146 : decode cL_law_ 1146 = .ok (.iadd, 1) := by decide +kernel
theorem dl_law__1147 : decode cL_law_ 1147 = .ok (.iaload, 1) := by decide +kernel
theorem dl_law__1148 : decode cL_law_ 1148 = .ok (.aload_n 3, 1) := by decide +kernel
theorem dl_law__1149 : decode cL_law_ 1149 = .ok (.invokestatic 181, 3) := by decide +kernel
theorem dl_law__1152 : decode cL_law_ 1152 = .ok (.istore 5, 2) := by decide +kernel
theorem dl_law__1154 : decode cL_law_ 1154 = .ok (.aload_n 2, 1) := by decide +kernel
theorem dl_law__1155 : decode cL_law_ 1155 = .ok (.aload_n 0, 1) := by decide +kernel
theorem dl_law__1156 : decode cL_law_ 1156 = .ok (.iload 4, 2) := by decide +kernel
theorem dl_law__1158 : decode cL_law_ 1158 = .ok (.iconst 1, 1) := by decide +kernel
theorem dl_law__1159 : decode cL_law_ 1159 = .ok (.iadd, 1) := by decide +kernel
theorem dl_law__1160 : decode cL_law_ 1160 = .ok (.iaload, 1) := by decide +kernel
theorem dl_law__1161 : decode cL_law_ 1161 = .ok (.invokevirtual 183, 3) := by decide +kernel
theorem dl_law__1164 : decode cL_law_ 1164 = .ok (.istore 6, 2) := by decide +kernel
theorem dl_law__1166 : decode cL_law_ 1166 = .ok (.aload_n 2, 1) := by decide +kernel
theorem dl_law__1167 : decode cL_law_ 1167 = .ok (.invokevirtual 134, 3) := by decide +kernel
theorem dl_law__1170 : decode cL_law_ 1170 = .ok (.iload 5, 2) := by decide +kernel
theorem dl_law__1172 : decode cL_law_ 1172 = .ok (.if_icmp .eq 5, 3) := by decide +kernel
theorem dl_law__1177 : decode cL_law_ 1177 = .ok (.iload 5, 2) := by decide +kernel
theorem dl_law__1179 : decode cL_law_ 1179 = .ok (.ifCond .ne 15, 3) := by decide +kernel
theorem dl_law__1182 : decode cL_law_ 1182 = .ok (.aload_n 3, 1) := by decide +kernel
theorem dl_law__1183 : decode cL_law_ 1183 = .ok (.iconst 0, 1) := by decide +kernel
theorem dl_law__1184 : decode cL_law_ 1184 = .ok (.laload, 1) := by decide +kernel
theorem dl_law__1185 : decode cL_law_ 1185 = .ok (.iload 6, 2) := by decide +kernel
theorem dl_law__1187 : decode cL_law_ 1187 = .ok (.i2l, 1) := by decide +kernel
theorem dl_law__1188 : decode cL_law_ 1188 = .ok (.lcmp, 1) := by decide +kernel
theorem dl_law__1189 : decode cL_law_ 1189 = .ok (.ifCond .eq 5, 3) := by decide +kernel
theorem dl_law__1194 : decode cL_law_ 1194 = .ok (.goto 1429, 3) := by decide +kernel
theorem dl_law__1197 : decode cL_law_ 1197 = .ok (.aload_n 1, 1) := by decide +kernel
theorem dl_law__1198 : decode cL_law_ 1198 = .ok (.aload_n 0, 1) := by decide +kernel
theorem dl_law__1199 : decode cL_law_ 1199 = .ok (.iload 4, 2) := by decide +kernel
theorem dl_law__1201 : decode cL_law_ 1201 = .ok (.iconst 1, 1) := by decide +kernel
theorem dl_law__1202 : decode cL_law_ 1202 = .ok (.iadd, 1) := by decide +kernel
theorem dl_law__1203 : decode cL_law_ 1203 = .ok (.iaload, 1) := by decide +kernel
theorem dl_law__1204 : decode cL_law_ 1204 = .ok (.aload_n 3, 1) := by decide +kernel
theorem dl_law__1205 : decode cL_law_ 1205 = .ok (.invokestatic 184, 3) := by decide +kernel
theorem dl_law__1208 : decode cL_law_ 1208 = .ok (.istore 5, 2) := by decide +kernel
theorem dl_law__1210 : decode cL_law_ 1210 = .ok (.aload_n 2, 1) := by decide +kernel
theorem dl_law__1211 : decode cL_law_ 1211 = .ok (.aload_n 0, 1) := by decide +kernel
theorem dl_law__1212 : decode cL_law_ 1212 = .ok (.iload 4, 2) := by decide +kernel
theorem dl_law__1214 : decode cL_law_ 1214 = .ok (.iconst 1, 1) := by decide +kernel
theorem dl_law__1215 : decode cL_law_ 1215 = .ok (.iadd, 1) := by decide +kernel
theorem dl_law__1216 : decode cL_law_ 1216 = .ok (.iaload, 1) := by decide +kernel
theorem dl_law__1217 : decode cL_law_ 1217 = .ok (.invokevirtual 186, 3) := by decide +kernel
theorem dl_law__1220 : decode cL_law_ 1220 = .ok (.istore 6, 2) := by decide +kernel
theorem dl_law__1222 : decode cL_law_ 1222 = .ok (.aload_n 2, 1) := by decide +kernel
theorem dl_law__1223 : decode cL_law_ 1223 = .ok (.invokevirtual 134, 3) := by decide +kernel
theorem dl_law__1226 : decode cL_law_ 1226 = .ok (.iload 5, 2) := by decide +kernel
theorem dl_law__1228 : decode cL_law_ 1228 = .ok (.if_icmp .eq 5, 3) := by decide +kernel
theorem dl_law__1233 : decode cL_law_ 1233 = .ok (.iload 5, 2) := by decide +kernel
theorem dl_law__1235 : decode cL_law_ 1235 = .ok (.ifCond .ne 15, 3) := by decide +kernel
theorem dl_law__1238 : decode cL_law_ 1238 = .ok (.aload_n 3, 1) := by decide +kernel
theorem dl_law__1239 : decode cL_law_ 1239 = .ok (.iconst 0, 1) := by decide +kernel
theorem dl_law__1240 : decode cL_law_ 1240 = .ok (.laload, 1) := by decide +kernel
theorem dl_law__1241 : decode cL_law_ 1241 = .ok (.iload 6, 2) := by decide +kernel
theorem dl_law__1243 : decode cL_law_ 1243 = .ok (.i2l, 1) := by decide +kernel
theorem dl_law__1244 : decode cL_law_ 1244 = .ok (.lcmp, 1) := by decide +kernel
theorem dl_law__1245 : decode cL_law_ 1245 = .ok (.ifCond .eq 5, 3) := by decide +kernel
theorem dl_law__1250 : decode cL_law_ 1250 = .ok (.goto 1373, 3) := by decide +kernel
theorem dl_law__1253 : decode cL_law_ 1253 = .ok (.aload_n 1, 1) := by decide +kernel
theorem dl_law__1254 : decode cL_law_ 1254 = .ok (.invokevirtual 187, 3) := by decide +kernel
theorem dl_law__1257 : decode cL_law_ 1257 = .ok (.aload_n 2, 1) := by decide +kernel
theorem dl_law__1258 : decode cL_law_ 1258 = .ok (.invokevirtual 190, 3) := by decide +kernel
theorem dl_law__1261 : decode cL_law_ 1261 = .ok (.if_icmp .eq 1362, 3) := by decide +kernel
theorem dl_law__1266 : decode cL_law_ 1266 = .ok (.aload_n 1, 1) := by decide +kernel
theorem dl_law__1267 : decode cL_law_ 1267 = .ok (.aload_n 0, 1) := by decide +kernel
theorem dl_law__1268 : decode cL_law_ 1268 = .ok (.iload 4, 2) := by decide +kernel
theorem dl_law__1270 : decode cL_law_ 1270 = .ok (.iconst 1, 1) := by decide +kernel
theorem dl_law__1271 : decode cL_law_ 1271 = .ok (.iadd, 1) := by decide +kernel
theorem dl_law__1272 : decode cL_law_ 1272 = .ok (.iaload, 1) := by decide +kernel
theorem dl_law__1273 : decode cL_law_ 1273 = .ok (.aload_n 3, 1) := by decide +kernel
theorem dl_law__1274 : decode cL_law_ 1274 = .ok (.invokestatic 191, 3) := by decide +kernel
theorem dl_law__1277 : decode cL_law_ 1277 = .ok (.istore 5, 2) := by decide +kernel
theorem dl_law__1279 : decode cL_law_ 1279 = .ok (.aload_n 2, 1) := by decide +kernel
theorem dl_law__1280 : decode cL_law_ 1280 = .ok (.aload_n 0, 1) := by decide +kernel
theorem dl_law__1281 : decode cL_law_ 1281 = .ok (.iload 4, 2) := by decide +kernel
theorem dl_law__1283 : decode cL_law_ 1283 = .ok (.iconst 1, 1) := by decide +kernel
theorem dl_law__1284 : decode cL_law_ 1284 = .ok (.iadd, 1) := by decide +kernel
theorem dl_law__1285 : decode cL_law_ 1285 = .ok (.iaload, 1) := by decide +kernel
theorem dl_law__1286 : decode cL_law_ 1286 = .ok (.invokevirtual 193, 3) := by decide +kernel
theorem dl_law__1289 : decode cL_law_ 1289 = .ok (.istore 6, 2) := by decide +kernel
theorem dl_law__1291 : decode cL_law_ 1291 = .ok (.aload_n 2, 1) := by decide +kernel
theorem dl_law__1292 : decode cL_law_ 1292 = .ok (.invokevirtual 134, 3) := by decide +kernel
theorem dl_law__1295 : decode cL_law_ 1295 = .ok (.iload 5, 2) := by decide +kernel
theorem dl_law__1297 : decode cL_law_ 1297 = .ok (.if_icmp .eq 5, 3) := by decide +kernel
theorem dl_law__1302 : decode cL_law_ 1302 = .ok (.iload 5, 2) := by decide +kernel
theorem dl_law__1304 : decode cL_law_ 1304 = .ok (.ifCond .ne 15, 3) := by decide +kernel
theorem dl_law__1307 : decode cL_law_ 1307 = .ok (.aload_n 3, 1) := by decide +kernel
theorem dl_law__1308 : decode cL_law_ 1308 = .ok (.iconst 0, 1) := by decide +kernel
theorem dl_law__1309 : decode cL_law_ 1309 = .ok (.laload, 1) := by decide +kernel
theorem dl_law__1310 : decode cL_law_ 1310 = .ok (.iload 6, 2) := by decide +kernel
theorem dl_law__1312 : decode cL_law_ 1312 = .ok (.i2l, 1) := by decide +kernel
theorem dl_law__1313 : decode cL_law_ 1313 = .ok (.lcmp, 1) := by decide +kernel
theorem dl_law__1314 : decode cL_law_ 1314 = .ok (.ifCond .eq 5, 3) := by decide +kernel
theorem dl_law__1319 : decode cL_law_ 1319 = .ok (.goto 1304, 3) := by decide +kernel
theorem dl_law__1322 : decode cL_law_ 1322 = .ok (.aload_n 1, 1) := by decide +kernel
theorem dl_law__1323 : decode cL_law_ 1323 = .ok (.aload_n 0, 1) := by decide +kernel
theorem dl_law__1324 : decode cL_law_ 1324 = .ok (.iload 4, 2) := by decide +kernel
theorem dl_law__1326 : decode cL_law_ 1326 = .ok (.iconst 1, 1) := by decide +kernel
theorem dl_law__1327 : decode cL_law_ 1327 = .ok (.iadd, 1) := by decide +kernel
theorem dl_law__1328 : decode cL_law_ 1328 = .ok (.iaload, 1) := by decide +kernel
theorem dl_law__1329 : decode cL_law_ 1329 = .ok (.aload_n 3, 1) := by decide +kernel
theorem dl_law__1330 : decode cL_law_ 1330 = .ok (.invokestatic 194, 3) := by decide +kernel
theorem dl_law__1333 : decode cL_law_ 1333 = .ok (.istore 5, 2) := by decide +kernel
theorem dl_law__1335 : decode cL_law_ 1335 = .ok (.aload_n 2, 1) := by decide +kernel
theorem dl_law__1336 : decode cL_law_ 1336 = .ok (.aload_n 0, 1) := by decide +kernel
theorem dl_law__1337 : decode cL_law_ 1337 = .ok (.iload 4, 2) := by decide +kernel
theorem dl_law__1339 : decode cL_law_ 1339 = .ok (.iconst 1, 1) := by decide +kernel
theorem dl_law__1340 : decode cL_law_ 1340 = .ok (.iadd, 1) := by decide +kernel
theorem dl_law__1341 : decode cL_law_ 1341 = .ok (.iaload, 1) := by decide +kernel
theorem dl_law__1342 : decode cL_law_ 1342 = .ok (.invokevirtual 196, 3) := by decide +kernel
theorem dl_law__1345 : decode cL_law_ 1345 = .ok (.istore 6, 2) := by decide +kernel
theorem dl_law__1347 : decode cL_law_ 1347 = .ok (.aload_n 2, 1) := by decide +kernel
theorem dl_law__1348 : decode cL_law_ 1348 = .ok (.invokevirtual 134, 3) := by decide +kernel
theorem dl_law__1351 : decode cL_law_ 1351 = .ok (.iload 5, 2) := by decide +kernel
theorem dl_law__1353 : decode cL_law_ 1353 = .ok (.if_icmp .eq 5, 3) := by decide +kernel
theorem dl_law__1358 : decode cL_law_ 1358 = .ok (.iload 5, 2) := by decide +kernel
theorem dl_law__1360 : decode cL_law_ 1360 = .ok (.ifCond .ne 15, 3) := by decide +kernel
theorem dl_law__1363 : decode cL_law_ 1363 = .ok (.aload_n 3, 1) := by decide +kernel
theorem dl_law__1364 : decode cL_law_ 1364 = .ok (.iconst 0, 1) := by decide +kernel
theorem dl_law__1365 : decode cL_law_ 1365 = .ok (.laload, 1) := by decide +kernel
theorem dl_law__1366 : decode cL_law_ 1366 = .ok (.iload 6, 2) := by decide +kernel
theorem dl_law__1368 : decode cL_law_ 1368 = .ok (.i2l, 1) := by decide +kernel
theorem dl_law__1369 : decode cL_law_ 1369 = .ok (.lcmp, 1) := by decide +kernel
theorem dl_law__1370 : decode cL_law_ 1370 = .ok (.ifCond .eq 5, 3) := by decide +kernel
theorem dl_law__1375 : decode cL_law_ 1375 = .ok (.goto 1248, 3) := by decide +kernel
theorem dl_law__1378 : decode cL_law_ 1378 = .ok (.aload_n 1, 1) := by decide +kernel
theorem dl_law__1379 : decode cL_law_ 1379 = .ok (.aload_n 0, 1) := by decide +kernel
theorem dl_law__1380 : decode cL_law_ 1380 = .ok (.iload 4, 2) := by decide +kernel
theorem dl_law__1382 : decode cL_law_ 1382 = .ok (.iconst 1, 1) := by decide +kernel
theorem dl_law__1383 : decode cL_law_ 1383 = .ok (.iadd, 1) := by decide +kernel
theorem dl_law__1384 : decode cL_law_ 1384 = .ok (.iaload, 1) := by decide +kernel
theorem dl_law__1385 : decode cL_law_ 1385 = .ok (.aload_n 0, 1) := by decide +kernel
theorem dl_law__1386 : decode cL_law_ 1386 = .ok (.iload 4, 2) := by decide +kernel
theorem dl_law__1388 : decode cL_law_ 1388 = .ok (.iconst 2, 1) := by decide +kernel
theorem dl_law__1389 : decode cL_law_ 1389 = .ok (.iadd, 1) := by decide +kernel
theorem dl_law__1390 : decode cL_law_ 1390 = .ok (.iaload, 1) := by decide +kernel
theorem dl_law__1391 : decode cL_law_ 1391 = .ok (.aload_n 3, 1) := by decide +kernel
theorem dl_law__1392 : decode cL_law_ 1392 = .ok (.invokestatic 197, 3) := by decide +kernel
theorem dl_law__1395 : decode cL_law_ 1395 = .ok (.istore 5, 2) := by decide +kernel
theorem dl_law__1397 : decode cL_law_ 1397 = .ok (.aload_n 2, 1) := by decide +kernel
theorem dl_law__1398 : decode cL_law_ 1398 = .ok (.aload_n 0, 1) := by decide +kernel
theorem dl_law__1399 : decode cL_law_ 1399 = .ok (.iload 4, 2) := by decide +kernel
theorem dl_law__1401 : decode cL_law_ 1401 = .ok (.iconst 1, 1) := by decide +kernel
theorem dl_law__1402 : decode cL_law_ 1402 = .ok (.iadd, 1) := by decide +kernel
theorem dl_law__1403 : decode cL_law_ 1403 = .ok (.iaload, 1) := by decide +kernel
theorem dl_law__1404 : decode cL_law_ 1404 = .ok (.aload_n 0, 1) := by decide +kernel
theorem dl_law__1405 : decode cL_law_ 1405 = .ok (.iload 4, 2) := by decide +kernel
theorem dl_law__1407 : decode cL_law_ 1407 = .ok (.iconst 2, 1) := by decide +kernel
theorem dl_law__1408 : decode cL_law_ 1408 = .ok (.iadd, 1) := by decide +kernel
theorem dl_law__1409 : decode cL_law_ 1409 = .ok (.iaload, 1) := by decide +kernel
theorem dl_law__1410 : decode cL_law_ 1410 = .ok (.invokevirtual 199, 3) := by decide +kernel
theorem dl_law__1413 : decode cL_law_ 1413 = .ok (.istore 6, 2) := by decide +kernel
theorem dl_law__1415 : decode cL_law_ 1415 = .ok (.aload_n 2, 1) := by decide +kernel
theorem dl_law__1416 : decode cL_law_ 1416 = .ok (.invokevirtual 134, 3) := by decide +kernel
theorem dl_law__1419 : decode cL_law_ 1419 = .ok (.iload 5, 2) := by decide +kernel
theorem dl_law__1421 : decode cL_law_ 1421 = .ok (.if_icmp .eq 5, 3) := by decide +kernel
theorem dl_law__1426 : decode cL_law_ 1426 = .ok (.iload 5, 2) := by decide +kernel
theorem dl_law__1428 : decode cL_law_ 1428 = .ok (.ifCond .ne 15, 3) := by decide +kernel
theorem dl_law__1431 : decode cL_law_ 1431 = .ok (.aload_n 3, 1) := by decide +kernel
theorem dl_law__1432 : decode cL_law_ 1432 = .ok (.iconst 0, 1) := by decide +kernel
theorem dl_law__1433 : decode cL_law_ 1433 = .ok (.laload, 1) := by decide +kernel
theorem dl_law__1434 : decode cL_law_ 1434 = .ok (.iload 6, 2) := by decide +kernel
theorem dl_law__1436 : decode cL_law_ 1436 = .ok (.i2l, 1) := by decide +kernel
theorem dl_law__1437 : decode cL_law_ 1437 = .ok (.lcmp, 1) := by decide +kernel
theorem dl_law__1438 : decode cL_law_ 1438 = .ok (.ifCond .eq 5, 3) := by decide +kernel
theorem dl_law__1443 : decode cL_law_ 1443 = .ok (.goto 1180, 3) := by decide +kernel
theorem dl_law__1446 : decode cL_law_ 1446 = .ok (.aload_n 1, 1) := by decide +kernel
theorem dl_law__1447 : decode cL_law_ 1447 = .ok (.aload_n 0, 1) := by decide +kernel
theorem dl_law__1448 : decode cL_law_ 1448 = .ok (.iload 4, 2) := by decide +kernel
theorem dl_law__1450 : decode cL_law_ 1450 = .ok (.iconst 1, 1) := by decide +kernel
theorem dl_law__1451 : decode cL_law_ 1451 = .ok (.iadd, 1) := by decide +kernel
theorem dl_law__1452 : decode cL_law_ 1452 = .ok (.iaload, 1) := by decide +kernel
theorem dl_law__1453 : decode cL_law_ 1453 = .ok (.aload_n 3, 1) := by decide +kernel
theorem dl_law__1454 : decode cL_law_ 1454 = .ok (.invokestatic 200, 3) := by decide +kernel
theorem dl_law__1457 : decode cL_law_ 1457 = .ok (.istore 5, 2) := by decide +kernel
theorem dl_law__1459 : decode cL_law_ 1459 = .ok (.aload_n 2, 1) := by decide +kernel
theorem dl_law__1460 : decode cL_law_ 1460 = .ok (.aload_n 0, 1) := by decide +kernel
theorem dl_law__1461 : decode cL_law_ 1461 = .ok (.iload 4, 2) := by decide +kernel
theorem dl_law__1463 : decode cL_law_ 1463 = .ok (.iconst 1, 1) := by decide +kernel
theorem dl_law__1464 : decode cL_law_ 1464 = .ok (.iadd, 1) := by decide +kernel
theorem dl_law__1465 : decode cL_law_ 1465 = .ok (.iaload, 1) := by decide +kernel
theorem dl_law__1466 : decode cL_law_ 1466 = .ok (.invokevirtual 202, 3) := by decide +kernel
theorem dl_law__1469 : decode cL_law_ 1469 = .ok (.istore 6, 2) := by decide +kernel
theorem dl_law__1471 : decode cL_law_ 1471 = .ok (.aload_n 2, 1) := by decide +kernel
theorem dl_law__1472 : decode cL_law_ 1472 = .ok (.invokevirtual 134, 3) := by decide +kernel
theorem dl_law__1475 : decode cL_law_ 1475 = .ok (.iload 5, 2) := by decide +kernel
theorem dl_law__1477 : decode cL_law_ 1477 = .ok (.if_icmp .eq 5, 3) := by decide +kernel
theorem dl_law__1482 : decode cL_law_ 1482 = .ok (.iload 5, 2) := by decide +kernel
theorem dl_law__1484 : decode cL_law_ 1484 = .ok (.ifCond .ne 15, 3) := by decide +kernel
theorem dl_law__1487 : decode cL_law_ 1487 = .ok (.aload_n 3, 1) := by decide +kernel
theorem dl_law__1488 : decode cL_law_ 1488 = .ok (.iconst 0, 1) := by decide +kernel
theorem dl_law__1489 : decode cL_law_ 1489 = .ok (.laload, 1) := by decide +kernel
theorem dl_law__1490 : decode cL_law_ 1490 = .ok (.iload 6, 2) := by decide +kernel
theorem dl_law__1492 : decode cL_law_ 1492 = .ok (.i2l, 1) := by decide +kernel
theorem dl_law__1493 : decode cL_law_ 1493 = .ok (.lcmp, 1) := by decide +kernel
theorem dl_law__1494 : decode cL_law_ 1494 = .ok (.ifCond .eq 5, 3) := by decide +kernel
theorem dl_law__1499 : decode cL_law_ 1499 = .ok (.goto 1124, 3) := by decide +kernel
theorem dl_law__1502 : decode cL_law_ 1502 = .ok (.aload_n 1, 1) := by decide +kernel
theorem dl_law__1503 : decode cL_law_ 1503 = .ok (.aload_n 0, 1) := by decide +kernel
theorem dl_law__1504 : decode cL_law_ 1504 = .ok (.iload 4, 2) := by decide +kernel
theorem dl_law__1506 : decode cL_law_ 1506 = .ok (.iconst 1, 1) := by decide +kernel
theorem dl_law__1507 : decode cL_law_ 1507 = .ok (.iadd, 1) := by decide +kernel
theorem dl_law__1508 : decode cL_law_ 1508 = .ok (.iaload, 1) := by decide +kernel
theorem dl_law__1509 : decode cL_law_ 1509 = .ok (.aload_n 3, 1) := by decide +kernel
theorem dl_law__1510 : decode cL_law_ 1510 = .ok (.invokestatic 203, 3) := by decide +kernel
theorem dl_law__1513 : decode cL_law_ 1513 = .ok (.istore 5, 2) := by decide +kernel
theorem dl_law__1515 : decode cL_law_ 1515 = .ok (.aload_n 2, 1) := by decide +kernel
theorem dl_law__1516 : decode cL_law_ 1516 = .ok (.aload_n 0, 1) := by decide +kernel
theorem dl_law__1517 : decode cL_law_ 1517 = .ok (.iload 4, 2) := by decide +kernel
theorem dl_law__1519 : decode cL_law_ 1519 = .ok (.iconst 1, 1) := by decide +kernel
theorem dl_law__1520 : decode cL_law_ 1520 = .ok (.iadd, 1) := by decide +kernel
theorem dl_law__1521 : decode cL_law_ 1521 = .ok (.iaload, 1) := by decide +kernel
theorem dl_law__1522 : decode cL_law_ 1522 = .ok (.invokevirtual 205, 3) := by decide +kernel
theorem dl_law__1525 : decode cL_law_ 1525 = .ok (.istore 6, 2) := by decide +kernel
theorem dl_law__1527 : decode cL_law_ 1527 = .ok (.aload_n 2, 1) := by decide +kernel
theorem dl_law__1528 : decode cL_law_ 1528 = .ok (.invokevirtual 134, 3) := by decide +kernel
theorem dl_law__1531 : decode cL_law_ 1531 = .ok (.iload 5, 2) := by decide +kernel
theorem dl_law__1533 : decode cL_law_ 1533 = .ok (.if_icmp .eq 5, 3) := by decide +kernel
theorem dl_law__1538 : decode cL_law_ 1538 = .ok (.iload 5, 2) := by decide +kernel
theorem dl_law__1540 : decode cL_law_ 1540 = .ok (.ifCond .ne 15, 3) := by decide +kernel
theorem dl_law__1543 : decode cL_law_ 1543 = .ok (.aload_n 3, 1) := by decide +kernel
theorem dl_law__1544 : decode cL_law_ 1544 = .ok (.iconst 0, 1) := by decide +kernel
theorem dl_law__1545 : decode cL_law_ 1545 = .ok (.laload, 1) := by decide +kernel
theorem dl_law__1546 : decode cL_law_ 1546 = .ok (.iload 6, 2) := by decide +kernel
theorem dl_law__1548 : decode cL_law_ 1548 = .ok (.i2l, 1) := by decide +kernel
theorem dl_law__1549 : decode cL_law_ 1549 = .ok (.lcmp, 1) := by decide +kernel
theorem dl_law__1550 : decode cL_law_ 1550 = .ok (.ifCond .eq 5, 3) := by decide +kernel
theorem dl_law__1555 : decode cL_law_ 1555 = .ok (.goto 1068, 3) := by decide +kernel
theorem dl_law__1558 : decode cL_law_ 1558 = .ok (.aload_n 1, 1) := by decide +kernel
theorem dl_law__1559 : decode cL_law_ 1559 = .ok (.aload_n 0, 1) := by decide +kernel
theorem dl_law__1560 : decode cL_law_ 1560 = .ok (.iload 4, 2) := by decide +kernel
theorem dl_law__1562 : decode cL_law_ 1562 = .ok (.iconst 1, 1) := by decide +kernel
theorem dl_law__1563 : decode cL_law_ 1563 = .ok (.iadd, 1) := by decide +kernel
theorem dl_law__1564 : decode cL_law_ 1564 = .ok (.iaload, 1) := by decide +kernel
theorem dl_law__1565 : decode cL_law_ 1565 = .ok (.aload_n 0, 1) := by decide +kernel
theorem dl_law__1566 : decode cL_law_ 1566 = .ok (.iload 4, 2) := by decide +kernel
theorem dl_law__1568 : decode cL_law_ 1568 = .ok (.iconst 2, 1) := by decide +kernel
theorem dl_law__1569 : decode cL_law_ 1569 = .ok (.iadd, 1) := by decide +kernel
theorem dl_law__1570 : decode cL_law_ 1570 = .ok (.iaload, 1) := by decide +kernel
theorem dl_law__1571 : decode cL_law_ 1571 = .ok (.aload_n 0, 1) := by decide +kernel
theorem dl_law__1572 : decode cL_law_ 1572 = .ok (.iload 4, 2) := by decide +kernel
theorem dl_law__1574 : decode cL_law_ 1574 = .ok (.iconst 3, 1) := by decide +kernel
theorem dl_law__1575 : decode cL_law_ 1575 = .ok (.iadd, 1) := by decide +kernel
theorem dl_law__1576 : decode cL_law_ 1576 = .ok (.iaload, 1) := by decide +kernel
theorem dl_law__1577 : decode cL_law_ 1577 = .ok (.aload_n 0, 1) := by decide +kernel
theorem dl_law__1578 : decode cL_law_ 1578 = .ok (.iload 4, 2) := by decide +kernel
theorem dl_law__1580 : decode cL_law_ 1580 = .ok (.iconst 4, 1) := by decide +kernel
theorem dl_law__1581 : decode cL_law_ 1581 = .ok (.iadd, 1) := by decide +kernel
theorem dl_law__1582 : decode cL_law_ 1582 = .ok (.iaload, 1) := by decide +kernel
theorem dl_law__1583 : decode cL_law_ 1583 = .ok (.aload_n 3, 1) := by decide +kernel
theorem dl_law__1584 : decode cL_law_ 1584 = .ok (.invokestatic 206, 3) := by decide +kernel
theorem dl_law__1587 : decode cL_law_ 1587 = .ok (.istore 5, 2) := by decide +kernel
theorem dl_law__1589 : decode cL_law_ 1589 = .ok (.aload_n 2, 1) := by decide +kernel
theorem dl_law__1590 : decode cL_law_ 1590 = .ok (.aload_n 0, 1) := by decide +kernel
theorem dl_law__1591 : decode cL_law_ 1591 = .ok (.iload 4, 2) := by decide +kernel
theorem dl_law__1593 : decode cL_law_ 1593 = .ok (.iconst 1, 1) := by decide +kernel
theorem dl_law__1594 : decode cL_law_ 1594 = .ok (.iadd, 1) := by decide +kernel
theorem dl_law__1595 : decode cL_law_ 1595 = .ok (.iaload, 1) := by decide +kernel
theorem dl_law__1596 : decode cL_law_ 1596 = .ok (.aload_n 0, 1) := by decide +kernel
theorem dl_law__1597 : decode cL_law_ 1597 = .ok (.iload 4, 2) := by decide +kernel
theorem dl_law__1599 : decode cL_law_ 1599 = .ok (.iconst 2, 1) := by decide +kernel
theorem dl_law__1600 : decode cL_law_ 1600 = .ok (.iadd, 1) := by decide +kernel
theorem dl_law__1601 : decode cL_law_ 1601 = .ok (.iaload, 1) := by decide +kernel
theorem dl_law__1602 : decode cL_law_ 1602 = .ok (.aload_n 0, 1) := by decide +kernel
theorem dl_law__1603 : decode cL_law_ 1603 = .ok (.iload 4, 2) := by decide +kernel
theorem dl_law__1605 : decode cL_law_ 1605 = .ok (.iconst 3, 1) := by decide +kernel
theorem dl_law__1606 : decode cL_law_ 1606 = .ok (.iadd, 1) := by decide +kernel
theorem dl_law__1607 : decode cL_law_ 1607 = .ok (.iaload, 1) := by decide +kernel
theorem dl_law__1608 : decode cL_law_ 1608 = .ok (.aload_n 0, 1) := by decide +kernel
theorem dl_law__1609 : decode cL_law_ 1609 = .ok (.iload 4, 2) := by decide +kernel
theorem dl_law__1611 : decode cL_law_ 1611 = .ok (.iconst 4, 1) := by decide +kernel
theorem dl_law__1612 : decode cL_law_ 1612 = .ok (.iadd, 1) := by decide +kernel
theorem dl_law__1613 : decode cL_law_ 1613 = .ok (.iaload, 1) := by decide +kernel
theorem dl_law__1614 : decode cL_law_ 1614 = .ok (.invokevirtual 209, 3) := by decide +kernel
theorem dl_law__1617 : decode cL_law_ 1617 = .ok (.lstore 6, 2) := by decide +kernel
theorem dl_law__1619 : decode cL_law_ 1619 = .ok (.aload_n 2, 1) := by decide +kernel
theorem dl_law__1620 : decode cL_law_ 1620 = .ok (.invokevirtual 134, 3) := by decide +kernel
theorem dl_law__1623 : decode cL_law_ 1623 = .ok (.iload 5, 2) := by decide +kernel
theorem dl_law__1625 : decode cL_law_ 1625 = .ok (.if_icmp .eq 5, 3) := by decide +kernel
theorem dl_law__1630 : decode cL_law_ 1630 = .ok (.iload 5, 2) := by decide +kernel
theorem dl_law__1632 : decode cL_law_ 1632 = .ok (.ifCond .ne 14, 3) := by decide +kernel
theorem dl_law__1635 : decode cL_law_ 1635 = .ok (.aload_n 3, 1) := by decide +kernel
theorem dl_law__1636 : decode cL_law_ 1636 = .ok (.iconst 0, 1) := by decide +kernel
theorem dl_law__1637 : decode cL_law_ 1637 = .ok (.laload, 1) := by decide +kernel
theorem dl_law__1638 : decode cL_law_ 1638 = .ok (.lload 6, 2) := by decide +kernel
theorem dl_law__1640 : decode cL_law_ 1640 = .ok (.lcmp, 1) := by decide +kernel
theorem dl_law__1641 : decode cL_law_ 1641 = .ok (.ifCond .eq 5, 3) := by decide +kernel
theorem dl_law__1646 : decode cL_law_ 1646 = .ok (.goto 977, 3) := by decide +kernel
theorem dl_law__1649 : decode cL_law_ 1649 = .ok (.aload_n 1, 1) := by decide +kernel
theorem dl_law__1650 : decode cL_law_ 1650 = .ok (.aload_n 0, 1) := by decide +kernel
theorem dl_law__1651 : decode cL_law_ 1651 = .ok (.iload 4, 2) := by decide +kernel
theorem dl_law__1653 : decode cL_law_ 1653 = .ok (.iconst 1, 1) := by decide +kernel
theorem dl_law__1654 : decode cL_law_ 1654 = .ok (.iadd, 1) := by decide +kernel
theorem dl_law__1655 : decode cL_law_ 1655 = .ok (.iaload, 1) := by decide +kernel
theorem dl_law__1656 : decode cL_law_ 1656 = .ok (.aload_n 0, 1) := by decide +kernel
theorem dl_law__1657 : decode cL_law_ 1657 = .ok (.iload 4, 2) := by decide +kernel
theorem dl_law__1659 : decode cL_law_ 1659 = .ok (.iconst 2, 1) := by decide +kernel
theorem dl_law__1660 : decode cL_law_ 1660 = .ok (.iadd, 1) := by decide +kernel
theorem dl_law__1661 : decode cL_law_ 1661 = .ok (.iaload, 1) := by decide +kernel
theorem dl_law__1662 : decode cL_law_ 1662 = .ok (.aload_n 0, 1) := by decide +kernel
theorem dl_law__1663 : decode cL_law_ 1663 = .ok (.iload 4, 2) := by decide +kernel
theorem dl_law__1665 : decode cL_law_ 1665 = .ok (.iconst 3, 1) := by decide +kernel
theorem dl_law__1666 : decode cL_law_ 1666 = .ok (.iadd, 1) := by decide +kernel
theorem dl_law__1667 : decode cL_law_ 1667 = .ok (.iaload, 1) := by decide +kernel
theorem dl_law__1668 : decode cL_law_ 1668 = .ok (.aload_n 3, 1) := by decide +kernel
theorem dl_law__1669 : decode cL_law_ 1669 = .ok (.invokestatic 210, 3) := by decide +kernel
theorem dl_law__1672 : decode cL_law_ 1672 = .ok (.istore 5, 2) := by decide +kernel
theorem dl_law__1674 : decode cL_law_ 1674 = .ok (.aload_n 2, 1) := by decide +kernel
theorem dl_law__1675 : decode cL_law_ 1675 = .ok (.aload_n 0, 1) := by decide +kernel
theorem dl_law__1676 : decode cL_law_ 1676 = .ok (.iload 4, 2) := by decide +kernel
theorem dl_law__1678 : decode cL_law_ 1678 = .ok (.iconst 1, 1) := by decide +kernel
theorem dl_law__1679 : decode cL_law_ 1679 = .ok (.iadd, 1) := by decide +kernel
theorem dl_law__1680 : decode cL_law_ 1680 = .ok (.iaload, 1) := by decide +kernel
theorem dl_law__1681 : decode cL_law_ 1681 = .ok (.aload_n 0, 1) := by decide +kernel
theorem dl_law__1682 : decode cL_law_ 1682 = .ok (.iload 4, 2) := by decide +kernel
theorem dl_law__1684 : decode cL_law_ 1684 = .ok (.iconst 2, 1) := by decide +kernel
theorem dl_law__1685 : decode cL_law_ 1685 = .ok (.iadd, 1) := by decide +kernel
theorem dl_law__1686 : decode cL_law_ 1686 = .ok (.iaload, 1) := by decide +kernel
theorem dl_law__1687 : decode cL_law_ 1687 = .ok (.aload_n 0, 1) := by decide +kernel
theorem dl_law__1688 : decode cL_law_ 1688 = .ok (.iload 4, 2) := by decide +kernel
theorem dl_law__1690 : decode cL_law_ 1690 = .ok (.iconst 3, 1) := by decide +kernel
theorem dl_law__1691 : decode cL_law_ 1691 = .ok (.iadd, 1) := by decide +kernel
theorem dl_law__1692 : decode cL_law_ 1692 = .ok (.iaload, 1) := by decide +kernel
theorem dl_law__1693 : decode cL_law_ 1693 = .ok (.invokevirtual 213, 3) := by decide +kernel
theorem dl_law__1696 : decode cL_law_ 1696 = .ok (.istore 6, 2) := by decide +kernel
theorem dl_law__1698 : decode cL_law_ 1698 = .ok (.aload_n 2, 1) := by decide +kernel
theorem dl_law__1699 : decode cL_law_ 1699 = .ok (.invokevirtual 134, 3) := by decide +kernel
theorem dl_law__1702 : decode cL_law_ 1702 = .ok (.iload 5, 2) := by decide +kernel
theorem dl_law__1704 : decode cL_law_ 1704 = .ok (.if_icmp .eq 5, 3) := by decide +kernel
theorem dl_law__1709 : decode cL_law_ 1709 = .ok (.iload 5, 2) := by decide +kernel
theorem dl_law__1711 : decode cL_law_ 1711 = .ok (.ifCond .ne 15, 3) := by decide +kernel
theorem dl_law__1714 : decode cL_law_ 1714 = .ok (.aload_n 3, 1) := by decide +kernel
theorem dl_law__1715 : decode cL_law_ 1715 = .ok (.iconst 0, 1) := by decide +kernel
theorem dl_law__1716 : decode cL_law_ 1716 = .ok (.laload, 1) := by decide +kernel
theorem dl_law__1717 : decode cL_law_ 1717 = .ok (.iload 6, 2) := by decide +kernel
theorem dl_law__1719 : decode cL_law_ 1719 = .ok (.i2l, 1) := by decide +kernel
theorem dl_law__1720 : decode cL_law_ 1720 = .ok (.lcmp, 1) := by decide +kernel
theorem dl_law__1721 : decode cL_law_ 1721 = .ok (.ifCond .eq 5, 3) := by decide +kernel
theorem dl_law__1726 : decode cL_law_ 1726 = .ok (.goto 897, 3) := by decide +kernel
theorem dl_law__1729 : decode cL_law_ 1729 = .ok (.aload_n 1, 1) := by decide +kernel
theorem dl_law__1730 : decode cL_law_ 1730 = .ok (.aload_n 0, 1) := by decide +kernel
theorem dl_law__1731 : decode cL_law_ 1731 = .ok (.iload 4, 2) := by decide +kernel
theorem dl_law__1733 : decode cL_law_ 1733 = .ok (.iconst 1, 1) := by decide +kernel
theorem dl_law__1734 : decode cL_law_ 1734 = .ok (.iadd, 1) := by decide +kernel
theorem dl_law__1735 : decode cL_law_ 1735 = .ok (.iaload, 1) := by decide +kernel
theorem dl_law__1736 : decode cL_law_ 1736 = .ok (.aload_n 0, 1) := by decide +kernel
theorem dl_law__1737 : decode cL_law_ 1737 = .ok (.iload 4, 2) := by decide +kernel
theorem dl_law__1739 : decode cL_law_ 1739 = .ok (.iconst 2, 1) := by decide +kernel
theorem dl_law__1740 : decode cL_law_ 1740 = .ok (.iadd, 1) := by decide +kernel
theorem dl_law__1741 : decode cL_law_ 1741 = .ok (.iaload, 1) := by decide +kernel
theorem dl_law__1742 : decode cL_law_ 1742 = .ok (.aload_n 0, 1) := by decide +kernel
theorem dl_law__1743 : decode cL_law_ 1743 = .ok (.iload 4, 2) := by decide +kernel
theorem dl_law__1745 : decode cL_law_ 1745 = .ok (.iconst 3, 1) := by decide +kernel
theorem dl_law__1746 : decode cL_law_ 1746 = .ok (.iadd, 1) := by decide +kernel
theorem dl_law__1747 : decode cL_law_ 1747 = .ok (.iaload, 1) := by decide +kernel
theorem dl_law__1748 : decode cL_law_ 1748 = .ok (.aload_n 3, 1) := by decide +kernel
theorem dl_law__1749 : decode cL_law_ 1749 = .ok (.invokestatic 214, 3) := by decide +kernel
theorem dl_law__1752 : decode cL_law_ 1752 = .ok (.istore 5, 2) := by decide +kernel
theorem dl_law__1754 : decode cL_law_ 1754 = .ok (.aload_n 2, 1) := by decide +kernel
theorem dl_law__1755 : decode cL_law_ 1755 = .ok (.aload_n 0, 1) := by decide +kernel
theorem dl_law__1756 : decode cL_law_ 1756 = .ok (.iload 4, 2) := by decide +kernel
theorem dl_law__1758 : decode cL_law_ 1758 = .ok (.iconst 1, 1) := by decide +kernel
theorem dl_law__1759 : decode cL_law_ 1759 = .ok (.iadd, 1) := by decide +kernel
theorem dl_law__1760 : decode cL_law_ 1760 = .ok (.iaload, 1) := by decide +kernel
theorem dl_law__1761 : decode cL_law_ 1761 = .ok (.aload_n 0, 1) := by decide +kernel
theorem dl_law__1762 : decode cL_law_ 1762 = .ok (.iload 4, 2) := by decide +kernel
theorem dl_law__1764 : decode cL_law_ 1764 = .ok (.iconst 2, 1) := by decide +kernel
theorem dl_law__1765 : decode cL_law_ 1765 = .ok (.iadd, 1) := by decide +kernel
theorem dl_law__1766 : decode cL_law_ 1766 = .ok (.iaload, 1) := by decide +kernel
theorem dl_law__1767 : decode cL_law_ 1767 = .ok (.aload_n 0, 1) := by decide +kernel
theorem dl_law__1768 : decode cL_law_ 1768 = .ok (.iload 4, 2) := by decide +kernel
theorem dl_law__1770 : decode cL_law_ 1770 = .ok (.iconst 3, 1) := by decide +kernel
theorem dl_law__1771 : decode cL_law_ 1771 = .ok (.iadd, 1) := by decide +kernel
theorem dl_law__1772 : decode cL_law_ 1772 = .ok (.iaload, 1) := by decide +kernel
theorem dl_law__1773 : decode cL_law_ 1773 = .ok (.invokevirtual 216, 3) := by decide +kernel
theorem dl_law__1776 : decode cL_law_ 1776 = .ok (.istore 6, 2) := by decide +kernel
theorem dl_law__1778 : decode cL_law_ 1778 = .ok (.aload_n 2, 1) := by decide +kernel
theorem dl_law__1779 : decode cL_law_ 1779 = .ok (.invokevirtual 134, 3) := by decide +kernel
theorem dl_law__1782 : decode cL_law_ 1782 = .ok (.iload 5, 2) := by decide +kernel
theorem dl_law__1784 : decode cL_law_ 1784 = .ok (.if_icmp .eq 5, 3) := by decide +kernel
theorem dl_law__1789 : decode cL_law_ 1789 = .ok (.iload 5, 2) := by decide +kernel
theorem dl_law__1791 : decode cL_law_ 1791 = .ok (.ifCond .ne 15, 3) := by decide +kernel
theorem dl_law__1794 : decode cL_law_ 1794 = .ok (.aload_n 3, 1) := by decide +kernel
theorem dl_law__1795 : decode cL_law_ 1795 = .ok (.iconst 0, 1) := by decide +kernel
theorem dl_law__1796 : decode cL_law_ 1796 = .ok (.laload, 1) := by decide +kernel
theorem dl_law__1797 : decode cL_law_ 1797 = .ok (.iload 6, 2) := by decide +kernel
theorem dl_law__1799 : decode cL_law_ 1799 = .ok (.i2l, 1) := by decide +kernel
theorem dl_law__1800 : decode cL_law_ 1800 = .ok (.lcmp, 1) := by decide +kernel
theorem dl_law__1801 : decode cL_law_ 1801 = .ok (.ifCond .eq 5, 3) := by decide +kernel
theorem dl_law__1806 : decode cL_law_ 1806 = .ok (.goto 817, 3) := by decide +kernel
theorem dl_law__1809 : decode cL_law_ 1809 = .ok (.aload_n 1, 1) := by decide +kernel
theorem dl_law__1810 : decode cL_law_ 1810 = .ok (.aload_n 0, 1) := by decide +kernel
theorem dl_law__1811 : decode cL_law_ 1811 = .ok (.iload 4, 2) := by decide +kernel
theorem dl_law__1813 : decode cL_law_ 1813 = .ok (.iconst 1, 1) := by decide +kernel
theorem dl_law__1814 : decode cL_law_ 1814 = .ok (.iadd, 1) := by decide +kernel
theorem dl_law__1815 : decode cL_law_ 1815 = .ok (.iaload, 1) := by decide +kernel
theorem dl_law__1816 : decode cL_law_ 1816 = .ok (.aload_n 3, 1) := by decide +kernel
theorem dl_law__1817 : decode cL_law_ 1817 = .ok (.invokestatic 217, 3) := by decide +kernel
theorem dl_law__1820 : decode cL_law_ 1820 = .ok (.istore 5, 2) := by decide +kernel
theorem dl_law__1822 : decode cL_law_ 1822 = .ok (.aload_n 2, 1) := by decide +kernel
theorem dl_law__1823 : decode cL_law_ 1823 = .ok (.aload_n 0, 1) := by decide +kernel
theorem dl_law__1824 : decode cL_law_ 1824 = .ok (.iload 4, 2) := by decide +kernel
theorem dl_law__1826 : decode cL_law_ 1826 = .ok (.iconst 1, 1) := by decide +kernel
theorem dl_law__1827 : decode cL_law_ 1827 = .ok (.iadd, 1) := by decide +kernel
theorem dl_law__1828 : decode cL_law_ 1828 = .ok (.iaload, 1) := by decide +kernel
theorem dl_law__1829 : decode cL_law_ 1829 = .ok (.invokevirtual 219, 3) := by decide +kernel
theorem dl_law__1832 : decode cL_law_ 1832 = .ok (.istore 6, 2) := by decide +kernel
theorem dl_law__1834 : decode cL_law_ 1834 = .ok (.aload_n 2, 1) := by decide +kernel
theorem dl_law__1835 : decode cL_law_ 1835 = .ok (.invokevirtual 134, 3) := by decide +kernel
theorem dl_law__1838 : decode cL_law_ 1838 = .ok (.iload 5, 2) := by decide +kernel
theorem dl_law__1840 : decode cL_law_ 1840 = .ok (.if_icmp .eq 5, 3) := by decide +kernel
theorem dl_law__1845 : decode cL_law_ 1845 = .ok (.iload 5, 2) := by decide +kernel
theorem dl_law__1847 : decode cL_law_ 1847 = .ok (.ifCond .ne 15, 3) := by decide +kernel
theorem dl_law__1850 : decode cL_law_ 1850 = .ok (.aload_n 3, 1) := by decide +kernel
theorem dl_law__1851 : decode cL_law_ 1851 = .ok (.iconst 0, 1) := by decide +kernel
theorem dl_law__1852 : decode cL_law_ 1852 = .ok (.laload, 1) := by decide +kernel
theorem dl_law__1853 : decode cL_law_ 1853 = .ok (.iload 6, 2) := by decide +kernel
theorem dl_law__1855 : decode cL_law_ 1855 = .ok (.i2l, 1) := by decide +kernel
theorem dl_law__1856 : decode cL_law_ 1856 = .ok (.lcmp, 1) := by decide +kernel
theorem dl_law__1857 : decode cL_law_ 1857 = .ok (.ifCond .eq 5, 3) := by decide +kernel
theorem dl_law__1862 : decode cL_law_ 1862 = .ok (.goto 761, 3) := by decide +kernel
theorem dl_law__1865 : decode cL_law_ 1865 = .ok (.aload_n 1, 1) := by decide +kernel
theorem dl_law__1866 : decode cL_law_ 1866 = .ok (.aload_n 0, 1) := by decide +kernel
theorem dl_law__1867 : decode cL_law_ 1867 = .ok (.iload 4, 2) := by decide +kernel
theorem dl_law__1869 : decode cL_law_ 1869 = .ok (.iconst 1, 1) := by decide +kernel
theorem dl_law__1870 : decode cL_law_ 1870 = .ok (.iadd, 1) := by decide +kernel
theorem dl_law__1871 : decode cL_law_ 1871 = .ok (.iaload, 1) := by decide +kernel
theorem dl_law__1872 : decode cL_law_ 1872 = .ok (.aload_n 3, 1) := by decide +kernel
theorem dl_law__1873 : decode cL_law_ 1873 = .ok (.invokestatic 220, 3) := by decide +kernel
theorem dl_law__1876 : decode cL_law_ 1876 = .ok (.istore 5, 2) := by decide +kernel
theorem dl_law__1878 : decode cL_law_ 1878 = .ok (.aload_n 2, 1) := by decide +kernel
theorem dl_law__1879 : decode cL_law_ 1879 = .ok (.aload_n 0, 1) := by decide +kernel
theorem dl_law__1880 : decode cL_law_ 1880 = .ok (.iload 4, 2) := by decide +kernel
theorem dl_law__1882 : decode cL_law_ 1882 = .ok (.iconst 1, 1) := by decide +kernel
theorem dl_law__1883 : decode cL_law_ 1883 = .ok (.iadd, 1) := by decide +kernel
theorem dl_law__1884 : decode cL_law_ 1884 = .ok (.iaload, 1) := by decide +kernel
theorem dl_law__1885 : decode cL_law_ 1885 = .ok (.invokevirtual 222, 3) := by decide +kernel
theorem dl_law__1888 : decode cL_law_ 1888 = .ok (.istore 6, 2) := by decide +kernel
theorem dl_law__1890 : decode cL_law_ 1890 = .ok (.aload_n 2, 1) := by decide +kernel
theorem dl_law__1891 : decode cL_law_ 1891 = .ok (.invokevirtual 134, 3) := by decide +kernel
theorem dl_law__1894 : decode cL_law_ 1894 = .ok (.iload 5, 2) := by decide +kernel
theorem dl_law__1896 : decode cL_law_ 1896 = .ok (.if_icmp .eq 5, 3) := by decide +kernel
theorem dl_law__1901 : decode cL_law_ 1901 = .ok (.iload 5, 2) := by decide +kernel
theorem dl_law__1903 : decode cL_law_ 1903 = .ok (.ifCond .ne 15, 3) := by decide +kernel
theorem dl_law__1906 : decode cL_law_ 1906 = .ok (.aload_n 3, 1) := by decide +kernel
theorem dl_law__1907 : decode cL_law_ 1907 = .ok (.iconst 0, 1) := by decide +kernel
theorem dl_law__1908 : decode cL_law_ 1908 = .ok (.laload, 1) := by decide +kernel
theorem dl_law__1909 : decode cL_law_ 1909 = .ok (.iload 6, 2) := by decide +kernel
theorem dl_law__1911 : decode cL_law_ 1911 = .ok (.i2l, 1) := by decide +kernel
theorem dl_law__1912 : decode cL_law_ 1912 = .ok (.lcmp, 1) := by decide +kernel
theorem dl_law__1913 : decode cL_law_ 1913 = .ok (.ifCond .eq 5, 3) := by decide +kernel
theorem dl_law__1918 : decode cL_law_ 1918 = .ok (.goto 705, 3) := by decide +kernel
theorem dl_law__1921 : decode cL_law_ 1921 = .ok (.aload_n 1, 1) := by decide +kernel
theorem dl_law__1922 : decode cL_law_ 1922 = .ok (.aload_n 0, 1) := by decide +kernel
theorem dl_law__1923 : decode cL_law_ 1923 = .ok (.iload 4, 2) := by decide +kernel
theorem dl_law__1925 : decode cL_law_ 1925 = .ok (.iconst 1, 1) := by decide +kernel
theorem dl_law__1926 : decode cL_law_ 1926 = .ok (.iadd, 1) := by decide +kernel
theorem dl_law__1927 : decode cL_law_ 1927 = .ok (.iaload, 1) := by decide +kernel
theorem dl_law__1928 : decode cL_law_ 1928 = .ok (.aload_n 0, 1) := by decide +kernel
theorem dl_law__1929 : decode cL_law_ 1929 = .ok (.iload 4, 2) := by decide +kernel
theorem dl_law__1931 : decode cL_law_ 1931 = .ok (.iconst 2, 1) := by decide +kernel
theorem dl_law__1932 : decode cL_law_ 1932 = .ok (.iadd, 1) := by decide +kernel
theorem dl_law__1933 : decode cL_law_ 1933 = .ok (.iaload, 1) := by decide +kernel
theorem dl_law__1934 : decode cL_law_ 1934 = .ok (.aload_n 3, 1) := by decide +kernel
theorem dl_law__1935 : decode cL_law_ 1935 = .ok (.invokestatic 223, 3) := by decide +kernel
theorem dl_law__1938 : decode cL_law_ 1938 = .ok (.istore 5, 2) := by decide +kernel
theorem dl_law__1940 : decode cL_law_ 1940 = .ok (.aload_n 2, 1) := by decide +kernel
theorem dl_law__1941 : decode cL_law_ 1941 = .ok (.aload_n 0, 1) := by decide +kernel
theorem dl_law__1942 : decode cL_law_ 1942 = .ok (.iload 4, 2) := by decide +kernel
theorem dl_law__1944 : decode cL_law_ 1944 = .ok (.iconst 1, 1) := by decide +kernel
theorem dl_law__1945 : decode cL_law_ 1945 = .ok (.iadd, 1) := by decide +kernel
theorem dl_law__1946 : decode cL_law_ 1946 = .ok (.iaload, 1) := by decide +kernel
theorem dl_law__1947 : decode cL_law_ 1947 = .ok (.aload_n 0, 1) := by decide +kernel
theorem dl_law__1948 : decode cL_law_ 1948 = .ok (.iload 4, 2) := by decide +kernel
theorem dl_law__1950 : decode cL_law_ 1950 = .ok (.iconst 2, 1) := by decide +kernel
theorem dl_law__1951 : decode cL_law_ 1951 = .ok (.iadd, 1) := by decide +kernel
theorem dl_law__1952 : decode cL_law_ 1952 = .ok (.iaload, 1) := by decide +kernel
theorem dl_law__1953 : decode cL_law_ 1953 = .ok (.invokevirtual 225, 3) := by decide +kernel
theorem dl_law__1956 : decode cL_law_ 1956 = .ok (.istore 6, 2) := by decide +kernel
theorem dl_law__1958 : decode cL_law_ 1958 = .ok (.aload_n 2, 1) := by decide +kernel
theorem dl_law__1959 : decode cL_law_ 1959 = .ok (.invokevirtual 134, 3) := by decide +kernel
theorem dl_law__1962 : decode cL_law_ 1962 = .ok (.iload 5, 2) := by decide +kernel
theorem dl_law__1964 : decode cL_law_ 1964 = .ok (.if_icmp .eq 5, 3) := by decide +kernel
theorem dl_law__1969 : decode cL_law_ 1969 = .ok (.iload 5, 2) := by decide +kernel
theorem dl_law__1971 : decode cL_law_ 1971 = .ok (.ifCond .ne 15, 3) := by decide +kernel
theorem dl_law__1974 : decode cL_law_ 1974 = .ok (.aload_n 3, 1) := by decide +kernel
theorem dl_law__1975 : decode cL_law_ 1975 = .ok (.iconst 0, 1) := by decide +kernel
theorem dl_law__1976 : decode cL_law_ 1976 = .ok (.laload, 1) := by decide +kernel
theorem dl_law__1977 : decode cL_law_ 1977 = .ok (.iload 6, 2) := by decide +kernel
theorem dl_law__1979 : decode cL_law_ 1979 = .ok (.i2l, 1) := by decide +kernel
theorem dl_law__1980 : decode cL_law_ 1980 = .ok (.lcmp, 1) := by decide +kernel
theorem dl_law__1981 : decode cL_law_ 1981 = .ok (.ifCond .eq 5, 3) := by decide +kernel
theorem dl_law__1986 : decode cL_law_ 1986 = .ok (.goto 637, 3) := by decide +kernel
theorem dl_law__1989 : decode cL_law_ 1989 = .ok (.aload_n 1, 1) := by decide +kernel
theorem dl_law__1990 : decode cL_law_ 1990 = .ok (.aload_n 0, 1) := by decide +kernel
theorem dl_law__1991 : decode cL_law_ 1991 = .ok (.iload 4, 2) := by decide +kernel
theorem dl_law__1993 : decode cL_law_ 1993 = .ok (.iconst 1, 1) := by decide +kernel
theorem dl_law__1994 : decode cL_law_ 1994 = .ok (.iadd, 1) := by decide +kernel
theorem dl_law__1995 : decode cL_law_ 1995 = .ok (.iaload, 1) := by decide +kernel
theorem dl_law__1996 : decode cL_law_ 1996 = .ok (.aload_n 3, 1) := by decide +kernel
theorem dl_law__1997 : decode cL_law_ 1997 = .ok (.invokestatic 226, 3) := by decide +kernel
theorem dl_law__2000 : decode cL_law_ 2000 = .ok (.istore 5, 2) := by decide +kernel
theorem dl_law__2002 : decode cL_law_ 2002 = .ok (.aload_n 2, 1) := by decide +kernel
theorem dl_law__2003 : decode cL_law_ 2003 = .ok (.aload_n 0, 1) := by decide +kernel
theorem dl_law__2004 : decode cL_law_ 2004 = .ok (.iload 4, 2) := by decide +kernel
theorem dl_law__2006 : decode cL_law_ 2006 = .ok (.iconst 1, 1) := by decide +kernel
theorem dl_law__2007 : decode cL_law_ 2007 = .ok (.iadd, 1) := by decide +kernel
theorem dl_law__2008 : decode cL_law_ 2008 = .ok (.iaload, 1) := by decide +kernel
theorem dl_law__2009 : decode cL_law_ 2009 = .ok (.invokevirtual 228, 3) := by decide +kernel
theorem dl_law__2012 : decode cL_law_ 2012 = .ok (.istore 6, 2) := by decide +kernel
theorem dl_law__2014 : decode cL_law_ 2014 = .ok (.aload_n 2, 1) := by decide +kernel
theorem dl_law__2015 : decode cL_law_ 2015 = .ok (.invokevirtual 134, 3) := by decide +kernel
theorem dl_law__2018 : decode cL_law_ 2018 = .ok (.iload 5, 2) := by decide +kernel
theorem dl_law__2020 : decode cL_law_ 2020 = .ok (.if_icmp .eq 5, 3) := by decide +kernel
theorem dl_law__2025 : decode cL_law_ 2025 = .ok (.iload 5, 2) := by decide +kernel
theorem dl_law__2027 : decode cL_law_ 2027 = .ok (.ifCond .ne 15, 3) := by decide +kernel
theorem dl_law__2030 : decode cL_law_ 2030 = .ok (.aload_n 3, 1) := by decide +kernel
theorem dl_law__2031 : decode cL_law_ 2031 = .ok (.iconst 0, 1) := by decide +kernel
theorem dl_law__2032 : decode cL_law_ 2032 = .ok (.laload, 1) := by decide +kernel
theorem dl_law__2033 : decode cL_law_ 2033 = .ok (.iload 6, 2) := by decide +kernel
theorem dl_law__2035 : decode cL_law_ 2035 = .ok (.i2l, 1) := by decide +kernel
theorem dl_law__2036 : decode cL_law_ 2036 = .ok (.lcmp, 1) := by decide +kernel
theorem dl_law__2037 : decode cL_law_ 2037 = .ok (.ifCond .eq 5, 3) := by decide +kernel
theorem dl_law__2042 : decode cL_law_ 2042 = .ok (.goto 581, 3) := by decide +kernel
theorem dl_law__2045 : decode cL_law_ 2045 = .ok (.aload_n 1, 1) := by decide +kernel
theorem dl_law__2046 : decode cL_law_ 2046 = .ok (.aload_n 0, 1) := by decide +kernel
theorem dl_law__2047 : decode cL_law_ 2047 = .ok (.iload 4, 2) := by decide +kernel
theorem dl_law__2049 : decode cL_law_ 2049 = .ok (.iconst 1, 1) := by decide +kernel
theorem dl_law__2050 : decode cL_law_ 2050 = .ok (.iadd, 1) := by decide +kernel
theorem dl_law__2051 : decode cL_law_ 2051 = .ok (.iaload, 1) := by decide +kernel
theorem dl_law__2052 : decode cL_law_ 2052 = .ok (.aload_n 0, 1) := by decide +kernel
theorem dl_law__2053 : decode cL_law_ 2053 = .ok (.iload 4, 2) := by decide +kernel
theorem dl_law__2055 : decode cL_law_ 2055 = .ok (.iconst 2, 1) := by decide +kernel
theorem dl_law__2056 : decode cL_law_ 2056 = .ok (.iadd, 1) := by decide +kernel
theorem dl_law__2057 : decode cL_law_ 2057 = .ok (.iaload, 1) := by decide +kernel
theorem dl_law__2058 : decode cL_law_ 2058 = .ok (.aload_n 3, 1) := by decide +kernel
theorem dl_law__2059 : decode cL_law_ 2059 = .ok (.invokestatic 229, 3) := by decide +kernel
theorem dl_law__2062 : decode cL_law_ 2062 = .ok (.istore 5, 2) := by decide +kernel
theorem dl_law__2064 : decode cL_law_ 2064 = .ok (.aload_n 2, 1) := by decide +kernel
theorem dl_law__2065 : decode cL_law_ 2065 = .ok (.aload_n 0, 1) := by decide +kernel
theorem dl_law__2066 : decode cL_law_ 2066 = .ok (.iload 4, 2) := by decide +kernel
theorem dl_law__2068 : decode cL_law_ 2068 = .ok (.iconst 1, 1) := by decide +kernel
theorem dl_law__2069 : decode cL_law_ 2069 = .ok (.iadd, 1) := by decide +kernel
theorem dl_law__2070 : decode cL_law_ 2070 = .ok (.iaload, 1) := by decide +kernel
theorem dl_law__2071 : decode cL_law_ 2071 = .ok (.aload_n 0, 1) := by decide +kernel
theorem dl_law__2072 : decode cL_law_ 2072 = .ok (.iload 4, 2) := by decide +kernel
theorem dl_law__2074 : decode cL_law_ 2074 = .ok (.iconst 2, 1) := by decide +kernel
theorem dl_law__2075 : decode cL_law_ 2075 = .ok (.iadd, 1) := by decide +kernel
theorem dl_law__2076 : decode cL_law_ 2076 = .ok (.iaload, 1) := by decide +kernel
theorem dl_law__2077 : decode cL_law_ 2077 = .ok (.invokevirtual 231, 3) := by decide +kernel
theorem dl_law__2080 : decode cL_law_ 2080 = .ok (.istore 6, 2) := by decide +kernel
theorem dl_law__2082 : decode cL_law_ 2082 = .ok (.aload_n 2, 1) := by decide +kernel
theorem dl_law__2083 : decode cL_law_ 2083 = .ok (.invokevirtual 134, 3) := by decide +kernel
theorem dl_law__2086 : decode cL_law_ 2086 = .ok (.iload 5, 2) := by decide +kernel
theorem dl_law__2088 : decode cL_law_ 2088 = .ok (.if_icmp .eq 5, 3) := by decide +kernel
theorem dl_law__2093 : decode cL_law_ 2093 = .ok (.iload 5, 2) := by decide +kernel
theorem dl_law__2095 : decode cL_law_ 2095 = .ok (.ifCond .ne 15, 3) := by decide +kernel
theorem dl_law__2098 : decode cL_law_ 2098 = .ok (.aload_n 3, 1) := by decide +kernel
theorem dl_law__2099 : decode cL_law_ 2099 = .ok (.iconst 0, 1) := by decide +kernel
theorem dl_law__2100 : decode cL_law_ 2100 = .ok (.laload, 1) := by decide +kernel
theorem dl_law__2101 : decode cL_law_ 2101 = .ok (.iload 6, 2) := by decide +kernel
theorem dl_law__2103 : decode cL_law_ 2103 = .ok (.i2l, 1) := by decide +kernel
theorem dl_law__2104 : decode cL_law_ 2104 = .ok (.lcmp, 1) := by decide +kernel
theorem dl_law__2105 : decode cL_law_ 2105 = .ok (.ifCond .eq 5, 3) := by decide +kernel
theorem dl_law__2110 : decode cL_law_ 2110 = .ok (.goto 513, 3) := by decide +kernel
theorem dl_law__2113 : decode cL_law_ 2113 = .ok (.aload_n 1, 1) := by decide +kernel
theorem dl_law__2114 : decode cL_law_ 2114 = .ok (.aload_n 0, 1) := by decide +kernel
theorem dl_law__2115 : decode cL_law_ 2115 = .ok (.iload 4, 2) := by decide +kernel
theorem dl_law__2117 : decode cL_law_ 2117 = .ok (.iconst 1, 1) := by decide +kernel
theorem dl_law__2118 : decode cL_law_ 2118 = .ok (.iadd, 1) := by decide +kernel
theorem dl_law__2119 : decode cL_law_ 2119 = .ok (.iaload, 1) := by decide +kernel
theorem dl_law__2120 : decode cL_law_ 2120 = .ok (.aload_n 3, 1) := by decide +kernel
theorem dl_law__2121 : decode cL_law_ 2121 = .ok (.invokestatic 232, 3) := by decide +kernel
theorem dl_law__2124 : decode cL_law_ 2124 = .ok (.istore 5, 2) := by decide +kernel
theorem dl_law__2126 : decode cL_law_ 2126 = .ok (.aload_n 2, 1) := by decide +kernel
theorem dl_law__2127 : decode cL_law_ 2127 = .ok (.aload_n 0, 1) := by decide +kernel
theorem dl_law__2128 : decode cL_law_ 2128 = .ok (.iload 4, 2) := by decide +kernel
theorem dl_law__2130 : decode cL_law_ 2130 = .ok (.iconst 1, 1) := by decide +kernel
theorem dl_law__2131 : decode cL_law_ 2131 = .ok (.iadd, 1) := by decide +kernel
theorem dl_law__2132 : decode cL_law_ 2132 = .ok (.iaload, 1) := by decide +kernel
theorem dl_law__2133 : decode cL_law_ 2133 = .ok (.invokevirtual 234, 3) := by decide +kernel
theorem dl_law__2136 : decode cL_law_ 2136 = .ok (.istore 6, 2) := by decide +kernel
theorem dl_law__2138 : decode cL_law_ 2138 = .ok (.aload_n 2, 1) := by decide +kernel
theorem dl_law__2139 : decode cL_law_ 2139 = .ok (.invokevirtual 134, 3) := by decide +kernel
theorem dl_law__2142 : decode cL_law_ 2142 = .ok (.iload 5, 2) := by decide +kernel
theorem dl_law__2144 : decode cL_law_ 2144 = .ok (.if_icmp .eq 5, 3) := by decide +kernel
theorem dl_law__2149 : decode cL_law_ 2149 = .ok (.iload 5, 2) := by decide +kernel
theorem dl_law__2151 : decode cL_law_ 2151 = .ok (.ifCond .ne 15, 3) := by decide +kernel
theorem dl_law__2154 : decode cL_law_ 2154 = .ok (.aload_n 3, 1) := by decide +kernel
theorem dl_law__2155 : decode cL_law_ 2155 = .ok (.iconst 0, 1) := by decide +kernel
theorem dl_law__2156 : decode cL_law_ 2156 = .ok (.laload, 1) := by decide +kernel
theorem dl_law__2157 : decode cL_law_ 2157 = .ok (.iload 6, 2) := by decide +kernel
theorem dl_law__2159 : decode cL_law_ 2159 = .ok (.i2l, 1) := by decide +kernel
theorem dl_law__2160 : decode cL_law_ 2160 = .ok (.lcmp, 1) := by decide +kernel
theorem dl_law__2161 : decode cL_law_ 2161 = .ok (.ifCond .eq 5, 3) := by decide +kernel
theorem dl_law__2166 : decode cL_law_ 2166 = .ok (.goto 457, 3) := by decide +kernel
theorem dl_law__2169 : decode cL_law_ 2169 = .ok (.aload_n 1, 1) := by decide +kernel
theorem dl_law__2170 : decode cL_law_ 2170 = .ok (.aload_n 0, 1) := by decide +kernel
theorem dl_law__2171 : decode cL_law_ 2171 = .ok (.iload 4, 2) := by decide +kernel
theorem dl_law__2173 : decode cL_law_ 2173 = .ok (.iconst 1, 1) := by decide +kernel
theorem dl_law__2174 : decode cL_law_ 2174 = .ok (.iadd, 1) := by decide +kernel
theorem dl_law__2175 : decode cL_law_ 2175 = .ok (.iaload, 1) := by decide +kernel
theorem dl_law__2176 : decode cL_law_ 2176 = .ok (.aload_n 3, 1) := by decide +kernel
theorem dl_law__2177 : decode cL_law_ 2177 = .ok (.invokestatic 235, 3) := by decide +kernel
theorem dl_law__2180 : decode cL_law_ 2180 = .ok (.istore 5, 2) := by decide +kernel
theorem dl_law__2182 : decode cL_law_ 2182 = .ok (.aload_n 2, 1) := by decide +kernel
theorem dl_law__2183 : decode cL_law_ 2183 = .ok (.aload_n 0, 1) := by decide +kernel
theorem dl_law__2184 : decode cL_law_ 2184 = .ok (.iload 4, 2) := by decide +kernel
theorem dl_law__2186 : decode cL_law_ 2186 = .ok (.iconst 1, 1) := by decide +kernel
theorem dl_law__2187 : decode cL_law_ 2187 = .ok (.iadd, 1) := by decide +kernel
theorem dl_law__2188 : decode cL_law_ 2188 = .ok (.iaload, 1) := by decide +kernel
theorem dl_law__2189 : decode cL_law_ 2189 = .ok (.invokevirtual 237, 3) := by decide +kernel
theorem dl_law__2192 : decode cL_law_ 2192 = .ok (.istore 6, 2) := by decide +kernel
theorem dl_law__2194 : decode cL_law_ 2194 = .ok (.aload_n 2, 1) := by decide +kernel
theorem dl_law__2195 : decode cL_law_ 2195 = .ok (.invokevirtual 134, 3) := by decide +kernel
theorem dl_law__2198 : decode cL_law_ 2198 = .ok (.iload 5, 2) := by decide +kernel
theorem dl_law__2200 : decode cL_law_ 2200 = .ok (.if_icmp .eq 5, 3) := by decide +kernel
theorem dl_law__2205 : decode cL_law_ 2205 = .ok (.iload 5, 2) := by decide +kernel
theorem dl_law__2207 : decode cL_law_ 2207 = .ok (.ifCond .ne 15, 3) := by decide +kernel
theorem dl_law__2210 : decode cL_law_ 2210 = .ok (.aload_n 3, 1) := by decide +kernel
theorem dl_law__2211 : decode cL_law_ 2211 = .ok (.iconst 0, 1) := by decide +kernel
theorem dl_law__2212 : decode cL_law_ 2212 = .ok (.laload, 1) := by decide +kernel
theorem dl_law__2213 : decode cL_law_ 2213 = .ok (.iload 6, 2) := by decide +kernel
theorem dl_law__2215 : decode cL_law_ 2215 = .ok (.i2l, 1) := by decide +kernel
theorem dl_law__2216 : decode cL_law_ 2216 = .ok (.lcmp, 1) := by decide +kernel
theorem dl_law__2217 : decode cL_law_ 2217 = .ok (.ifCond .eq 5, 3) := by decide +kernel
theorem dl_law__2222 : decode cL_law_ 2222 = .ok (.goto 401, 3) := by decide +kernel
theorem dl_law__2225 : decode cL_law_ 2225 = .ok (.aload_n 1, 1) := by decide +kernel
theorem dl_law__2226 : decode cL_law_ 2226 = .ok (.aload_n 0, 1) := by decide +kernel
theorem dl_law__2227 : decode cL_law_ 2227 = .ok (.iload 4, 2) := by decide +kernel
theorem dl_law__2229 : decode cL_law_ 2229 = .ok (.iconst 1, 1) := by decide +kernel
theorem dl_law__2230 : decode cL_law_ 2230 = .ok (.iadd, 1) := by decide +kernel
theorem dl_law__2231 : decode cL_law_ 2231 = .ok (.iaload, 1) := by decide +kernel
theorem dl_law__2232 : decode cL_law_ 2232 = .ok (.aload_n 3, 1) := by decide +kernel
theorem dl_law__2233 : decode cL_law_ 2233 = .ok (.invokestatic 238, 3) := by decide +kernel
theorem dl_law__2236 : decode cL_law_ 2236 = .ok (.istore 5, 2) := by decide +kernel
theorem dl_law__2238 : decode cL_law_ 2238 = .ok (.aload_n 2, 1) := by decide +kernel
theorem dl_law__2239 : decode cL_law_ 2239 = .ok (.aload_n 0, 1) := by decide +kernel
theorem dl_law__2240 : decode cL_law_ 2240 = .ok (.iload 4, 2) := by decide +kernel
theorem dl_law__2242 : decode cL_law_ 2242 = .ok (.iconst 1, 1) := by decide +kernel
theorem dl_law__2243 : decode cL_law_ 2243 = .ok (.iadd, 1) := by decide +kernel
theorem dl_law__2244 : decode cL_law_ 2244 = .ok (.iaload, 1) := by decide +kernel
theorem dl_law__2245 : decode cL_law_ 2245 = .ok (.invokevirtual 240, 3) := by decide +kernel
theorem dl_law__2248 : decode cL_law_ 2248 = .ok (.istore 6, 2) := by decide +kernel
theorem dl_law__2250 : decode cL_law_ 2250 = .ok (.aload_n 2, 1) := by decide +kernel
theorem dl_law__2251 : decode cL_law_ 2251 = .ok (.invokevirtual 134, 3) := by decide +kernel
theorem dl_law__2254 : decode cL_law_ 2254 = .ok (.iload 5, 2) := by decide +kernel
theorem dl_law__2256 : decode cL_law_ 2256 = .ok (.if_icmp .eq 5, 3) := by decide +kernel
theorem dl_law__2261 : decode cL_law_ 2261 = .ok (.iload 5, 2) := by decide +kernel
theorem dl_law__2263 : decode cL_law_ 2263 = .ok (.ifCond .ne 15, 3) := by decide +kernel
theorem dl_law__2266 : decode cL_law_ 2266 = .ok (.aload_n 3, 1) := by decide +kernel
theorem dl_law__2267 : decode cL_law_ 2267 = .ok (.iconst 0, 1) := by decide +kernel
theorem dl_law__2268 : decode cL_law_ 2268 = .ok (.laload, 1) := by decide +kernel
theorem dl_law__2269 : decode cL_law_ 2269 = .ok (.iload 6, 2) := by decide +kernel
theorem dl_law__2271 : decode cL_law_ 2271 = .ok (.i2l, 1) := by decide +kernel
theorem dl_law__2272 : decode cL_law_ 2272 = .ok (.lcmp, 1) := by decide +kernel
theorem dl_law__2273 : decode cL_law_ 2273 = .ok (.ifCond .eq 5, 3) := by decide +kernel
theorem dl_law__2278 : decode cL_law_ 2278 = .ok (.goto 345, 3) := by decide +kernel
theorem dl_law__2281 : decode cL_law_ 2281 = .ok (.aload_n 1, 1) := by decide +kernel
theorem dl_law__2282 : decode cL_law_ 2282 = .ok (.aload_n 0, 1) := by decide +kernel
theorem dl_law__2283 : decode cL_law_ 2283 = .ok (.iload 4, 2) := by decide +kernel
theorem dl_law__2285 : decode cL_law_ 2285 = .ok (.iconst 1, 1) := by decide +kernel
theorem dl_law__2286 : decode cL_law_ 2286 = .ok (.iadd, 1) := by decide +kernel
theorem dl_law__2287 : decode cL_law_ 2287 = .ok (.iaload, 1) := by decide +kernel
theorem dl_law__2288 : decode cL_law_ 2288 = .ok (.aload_n 3, 1) := by decide +kernel
theorem dl_law__2289 : decode cL_law_ 2289 = .ok (.invokestatic 241, 3) := by decide +kernel
theorem dl_law__2292 : decode cL_law_ 2292 = .ok (.istore 5, 2) := by decide +kernel
theorem dl_law__2294 : decode cL_law_ 2294 = .ok (.aload_n 2, 1) := by decide +kernel
theorem dl_law__2295 : decode cL_law_ 2295 = .ok (.aload_n 0, 1) := by decide +kernel
theorem dl_law__2296 : decode cL_law_ 2296 = .ok (.iload 4, 2) := by decide +kernel
theorem dl_law__2298 : decode cL_law_ 2298 = .ok (.iconst 1, 1) := by decide +kernel
theorem dl_law__2299 : decode cL_law_ 2299 = .ok (.iadd, 1) := by decide +kernel
theorem dl_law__2300 : decode cL_law_ 2300 = .ok (.iaload, 1) := by decide +kernel
theorem dl_law__2301 : decode cL_law_ 2301 = .ok (.invokevirtual 243, 3) := by decide +kernel
theorem dl_law__2304 : decode cL_law_ 2304 = .ok (.istore 6, 2) := by decide +kernel
theorem dl_law__2306 : decode cL_law_ 2306 = .ok (.aload_n 2, 1) := by decide +kernel
theorem dl_law__2307 : decode cL_law_ 2307 = .ok (.invokevirtual 134, 3) := by decide +kernel
theorem dl_law__2310 : decode cL_law_ 2310 = .ok (.iload 5, 2) := by decide +kernel
theorem dl_law__2312 : decode cL_law_ 2312 = .ok (.if_icmp .eq 5, 3) := by decide +kernel
theorem dl_law__2317 : decode cL_law_ 2317 = .ok (.iload 5, 2) := by decide +kernel
theorem dl_law__2319 : decode cL_law_ 2319 = .ok (.ifCond .ne 15, 3) := by decide +kernel
theorem dl_law__2322 : decode cL_law_ 2322 = .ok (.aload_n 3, 1) := by decide +kernel
theorem dl_law__2323 : decode cL_law_ 2323 = .ok (.iconst 0, 1) := by decide +kernel
theorem dl_law__2324 : decode cL_law_ 2324 = .ok (.laload, 1) := by decide +kernel
theorem dl_law__2325 : decode cL_law_ 2325 = .ok (.iload 6, 2) := by decide +kernel
theorem dl_law__2327 : decode cL_law_ 2327 = .ok (.i2l, 1) := by decide +kernel
theorem dl_law__2328 : decode cL_law_ 2328 = .ok (.lcmp, 1) := by decide +kernel
theorem dl_law__2329 : decode cL_law_ 2329 = .ok (.ifCond .eq 5, 3) := by decide +kernel
theorem dl_law__2334 : decode cL_law_ 2334 = .ok (.goto 289, 3) := by decide +kernel
theorem dl_law__2337 : decode cL_law_ 2337 = .ok (.aload_n 1, 1) := by decide +kernel
theorem dl_law__2338 : decode cL_law_ 2338 = .ok (.aload_n 0, 1) := by decide +kernel
theorem dl_law__2339 : decode cL_law_ 2339 = .ok (.iload 4, 2) := by decide +kernel
theorem dl_law__2341 : decode cL_law_ 2341 = .ok (.iconst 1, 1) := by decide +kernel
theorem dl_law__2342 : decode cL_law_ 2342 = .ok (.iadd, 1) := by decide +kernel
theorem dl_law__2343 : decode cL_law_ 2343 = .ok (.iaload, 1) := by decide +kernel
theorem dl_law__2344 : decode cL_law_ 2344 = .ok (.aload_n 0, 1) := by decide +kernel
theorem dl_law__2345 : decode cL_law_ 2345 = .ok (.iload 4, 2) := by decide +kernel
theorem dl_law__2347 : decode cL_law_ 2347 = .ok (.iconst 2, 1) := by decide +kernel
theorem dl_law__2348 : decode cL_law_ 2348 = .ok (.iadd, 1) := by decide +kernel
theorem dl_law__2349 : decode cL_law_ 2349 = .ok (.iaload, 1) := by decide +kernel
theorem dl_law__2350 : decode cL_law_ 2350 = .ok (.aload_n 0, 1) := by decide +kernel
theorem dl_law__2351 : decode cL_law_ 2351 = .ok (.iload 4, 2) := by decide +kernel
theorem dl_law__2353 : decode cL_law_ 2353 = .ok (.iconst 3, 1) := by decide +kernel
theorem dl_law__2354 : decode cL_law_ 2354 = .ok (.iadd, 1) := by decide +kernel
theorem dl_law__2355 : decode cL_law_ 2355 = .ok (.iaload, 1) := by decide +kernel
theorem dl_law__2356 : decode cL_law_ 2356 = .ok (.aload_n 0, 1) := by decide +kernel
theorem dl_law__2357 : decode cL_law_ 2357 = .ok (.iload 4, 2) := by decide +kernel
theorem dl_law__2359 : decode cL_law_ 2359 = .ok (.iconst 4, 1) := by decide +kernel
theorem dl_law__2360 : decode cL_law_ 2360 = .ok (.iadd, 1) := by decide +kernel
theorem dl_law__2361 : decode cL_law_ 2361 = .ok (.iaload, 1) := by decide +kernel
theorem dl_law__2362 : decode cL_law_ 2362 = .ok (.aload_n 3, 1) := by decide +kernel
theorem dl_law__2363 : decode cL_law_ 2363 = .ok (.invokestatic 244, 3) := by decide +kernel
theorem dl_law__2366 : decode cL_law_ 2366 = .ok (.istore 5, 2) := by decide +kernel
theorem dl_law__2368 : decode cL_law_ 2368 = .ok (.aload_n 2, 1) := by decide +kernel
theorem dl_law__2369 : decode cL_law_ 2369 = .ok (.aload_n 0, 1) := by decide +kernel
theorem dl_law__2370 : decode cL_law_ 2370 = .ok (.iload 4, 2) := by decide +kernel
theorem dl_law__2372 : decode cL_law_ 2372 = .ok (.iconst 1, 1) := by decide +kernel
theorem dl_law__2373 : decode cL_law_ 2373 = .ok (.iadd, 1) := by decide +kernel
theorem dl_law__2374 : decode cL_law_ 2374 = .ok (.iaload, 1) := by decide +kernel
theorem dl_law__2375 : decode cL_law_ 2375 = .ok (.aload_n 0, 1) := by decide +kernel
theorem dl_law__2376 : decode cL_law_ 2376 = .ok (.iload 4, 2) := by decide +kernel
theorem dl_law__2378 : decode cL_law_ 2378 = .ok (.iconst 2, 1) := by decide +kernel
theorem dl_law__2379 : decode cL_law_ 2379 = .ok (.iadd, 1) := by decide +kernel
theorem dl_law__2380 : decode cL_law_ 2380 = .ok (.iaload, 1) := by decide +kernel
theorem dl_law__2381 : decode cL_law_ 2381 = .ok (.aload_n 0, 1) := by decide +kernel
theorem dl_law__2382 : decode cL_law_ 2382 = .ok (.iload 4, 2) := by decide +kernel
theorem dl_law__2384 : decode cL_law_ 2384 = .ok (.iconst 3, 1) := by decide +kernel
theorem dl_law__2385 : decode cL_law_ 2385 = .ok (.iadd, 1) := by decide +kernel
theorem dl_law__2386 : decode cL_law_ 2386 = .ok (.iaload, 1) := by decide +kernel
theorem dl_law__2387 : decode cL_law_ 2387 = .ok (.aload_n 0, 1) := by decide +kernel
theorem dl_law__2388 : decode cL_law_ 2388 = .ok (.iload 4, 2) := by decide +kernel
theorem dl_law__2390 : decode cL_law_ 2390 = .ok (.iconst 4, 1) := by decide +kernel
theorem dl_law__2391 : decode cL_law_ 2391 = .ok (.iadd, 1) := by decide +kernel
theorem dl_law__2392 : decode cL_law_ 2392 = .ok (.iaload, 1) := by decide +kernel
theorem dl_law__2393 : decode cL_law_ 2393 = .ok (.invokevirtual 246, 3) := by decide +kernel
theorem dl_law__2396 : decode cL_law_ 2396 = .ok (.istore 6, 2) := by decide +kernel
theorem dl_law__2398 : decode cL_law_ 2398 = .ok (.aload_n 2, 1) := by decide +kernel
theorem dl_law__2399 : decode cL_law_ 2399 = .ok (.invokevirtual 134, 3) := by decide +kernel
theorem dl_law__2402 : decode cL_law_ 2402 = .ok (.iload 5, 2) := by decide +kernel
theorem dl_law__2404 : decode cL_law_ 2404 = .ok (.if_icmp .eq 5, 3) := by decide +kernel
theorem dl_law__2409 : decode cL_law_ 2409 = .ok (.iload 5, 2) := by decide +kernel
theorem dl_law__2411 : decode cL_law_ 2411 = .ok (.ifCond .ne 15, 3) := by decide +kernel
theorem dl_law__2414 : decode cL_law_ 2414 = .ok (.aload_n 3, 1) := by decide +kernel
theorem dl_law__2415 : decode cL_law_ 2415 = .ok (.iconst 0, 1) := by decide +kernel
theorem dl_law__2416 : decode cL_law_ 2416 = .ok (.laload, 1) := by decide +kernel
theorem dl_law__2417 : decode cL_law_ 2417 = .ok (.iload 6, 2) := by decide +kernel
theorem dl_law__2419 : decode cL_law_ 2419 = .ok (.i2l, 1) := by decide +kernel
theorem dl_law__2420 : decode cL_law_ 2420 = .ok (.lcmp, 1) := by decide +kernel
theorem dl_law__2421 : decode cL_law_ 2421 = .ok (.ifCond .eq 5, 3) := by decide +kernel
theorem dl_law__2426 : decode cL_law_ 2426 = .ok (.goto 197, 3) := by decide +kernel
theorem dl_law__2429 : decode cL_law_ 2429 = .ok (.aload_n 1, 1) := by decide +kernel
theorem dl_law__2430 : decode cL_law_ 2430 = .ok (.aload_n 0, 1) := by decide +kernel
theorem dl_law__2431 : decode cL_law_ 2431 = .ok (.iload 4, 2) := by decide +kernel
theorem dl_law__2433 : decode cL_law_ 2433 = .ok (.iconst 1, 1) := by decide +kernel
theorem dl_law__2434 : decode cL_law_ 2434 = .ok (.iadd, 1) := by decide +kernel
theorem dl_law__2435 : decode cL_law_ 2435 = .ok (.iaload, 1) := by decide +kernel
theorem dl_law__2436 : decode cL_law_ 2436 = .ok (.aload_n 0, 1) := by decide +kernel
theorem dl_law__2437 : decode cL_law_ 2437 = .ok (.iload 4, 2) := by decide +kernel
theorem dl_law__2439 : decode cL_law_ 2439 = .ok (.iconst 2, 1) := by decide +kernel
theorem dl_law__2440 : decode cL_law_ 2440 = .ok (.iadd, 1) := by decide +kernel
theorem dl_law__2441 : decode cL_law_ 2441 = .ok (.iaload, 1) := by decide +kernel
theorem dl_law__2442 : decode cL_law_ 2442 = .ok (.aload_n 0, 1) := by decide +kernel
theorem dl_law__2443 : decode cL_law_ 2443 = .ok (.iload 4, 2) := by decide +kernel
theorem dl_law__2445 : decode cL_law_ 2445 = .ok (.iconst 3, 1) := by decide +kernel
theorem dl_law__2446 : decode cL_law_ 2446 = .ok (.iadd, 1) := by decide +kernel
theorem dl_law__2447 : decode cL_law_ 2447 = .ok (.iaload, 1) := by decide +kernel
theorem dl_law__2448 : decode cL_law_ 2448 = .ok (.aload_n 0, 1) := by decide +kernel
theorem dl_law__2449 : decode cL_law_ 2449 = .ok (.iload 4, 2) := by decide +kernel
theorem dl_law__2451 : decode cL_law_ 2451 = .ok (.iconst 4, 1) := by decide +kernel
theorem dl_law__2452 : decode cL_law_ 2452 = .ok (.iadd, 1) := by decide +kernel
theorem dl_law__2453 : decode cL_law_ 2453 = .ok (.iaload, 1) := by decide +kernel
theorem dl_law__2454 : decode cL_law_ 2454 = .ok (.aload_n 0, 1) := by decide +kernel
theorem dl_law__2455 : decode cL_law_ 2455 = .ok (.iload 4, 2) := by decide +kernel
theorem dl_law__2457 : decode cL_law_ 2457 = .ok (.iconst 5, 1) := by decide +kernel
theorem dl_law__2458 : decode cL_law_ 2458 = .ok (.iadd, 1) := by decide +kernel
theorem dl_law__2459 : decode cL_law_ 2459 = .ok (.iaload, 1) := by decide +kernel
theorem dl_law__2460 : decode cL_law_ 2460 = .ok (.aload_n 0, 1) := by decide +kernel
theorem dl_law__2461 : decode cL_law_ 2461 = .ok (.iload 4, 2) := by decide +kernel
theorem dl_law__2463 : decode cL_law_ 2463 = .ok (.bipush 6, 2) := by decide +kernel
theorem dl_law__2465 : decode cL_law_ 2465 = .ok (.iadd, 1) := by decide +kernel
theorem dl_law__2466 : decode cL_law_ 2466 = .ok (.iaload, 1) := by decide +kernel
theorem dl_law__2467 : decode cL_law_ 2467 = .ok (.aload_n 3, 1) := by decide +kernel
theorem dl_law__2468 : decode cL_law_ 2468 = .ok (.invokestatic 247, 3) := by decide +kernel
theorem dl_law__2471 : decode cL_law_ 2471 = .ok (.istore 5, 2) := by decide +kernel
theorem dl_law__2473 : decode cL_law_ 2473 = .ok (.aload_n 2, 1) := by decide +kernel
theorem dl_law__2474 : decode cL_law_ 2474 = .ok (.aload_n 0, 1) := by decide +kernel
theorem dl_law__2475 : decode cL_law_ 2475 = .ok (.iload 4, 2) := by decide +kernel
theorem dl_law__2477 : decode cL_law_ 2477 = .ok (.iconst 1, 1) := by decide +kernel
theorem dl_law__2478 : decode cL_law_ 2478 = .ok (.iadd, 1) := by decide +kernel
theorem dl_law__2479 : decode cL_law_ 2479 = .ok (.iaload, 1) := by decide +kernel
theorem dl_law__2480 : decode cL_law_ 2480 = .ok (.aload_n 0, 1) := by decide +kernel
theorem dl_law__2481 : decode cL_law_ 2481 = .ok (.iload 4, 2) := by decide +kernel
theorem dl_law__2483 : decode cL_law_ 2483 = .ok (.iconst 2, 1) := by decide +kernel
theorem dl_law__2484 : decode cL_law_ 2484 = .ok (.iadd, 1) := by decide +kernel
theorem dl_law__2485 : decode cL_law_ 2485 = .ok (.iaload, 1) := by decide +kernel
theorem dl_law__2486 : decode cL_law_ 2486 = .ok (.aload_n 0, 1) := by decide +kernel
theorem dl_law__2487 : decode cL_law_ 2487 = .ok (.iload 4, 2) := by decide +kernel
theorem dl_law__2489 : decode cL_law_ 2489 = .ok (.iconst 3, 1) := by decide +kernel
theorem dl_law__2490 : decode cL_law_ 2490 = .ok (.iadd, 1) := by decide +kernel
theorem dl_law__2491 : decode cL_law_ 2491 = .ok (.iaload, 1) := by decide +kernel
theorem dl_law__2492 : decode cL_law_ 2492 = .ok (.aload_n 0, 1) := by decide +kernel
theorem dl_law__2493 : decode cL_law_ 2493 = .ok (.iload 4, 2) := by decide +kernel
theorem dl_law__2495 : decode cL_law_ 2495 = .ok (.iconst 4, 1) := by decide +kernel
theorem dl_law__2496 : decode cL_law_ 2496 = .ok (.iadd, 1) := by decide +kernel
theorem dl_law__2497 : decode cL_law_ 2497 = .ok (.iaload, 1) := by decide +kernel
theorem dl_law__2498 : decode cL_law_ 2498 = .ok (.aload_n 0, 1) := by decide +kernel
theorem dl_law__2499 : decode cL_law_ 2499 = .ok (.iload 4, 2) := by decide +kernel
theorem dl_law__2501 : decode cL_law_ 2501 = .ok (.iconst 5, 1) := by decide +kernel
theorem dl_law__2502 : decode cL_law_ 2502 = .ok (.iadd, 1) := by decide +kernel
theorem dl_law__2503 : decode cL_law_ 2503 = .ok (.iaload, 1) := by decide +kernel
theorem dl_law__2504 : decode cL_law_ 2504 = .ok (.aload_n 0, 1) := by decide +kernel
theorem dl_law__2505 : decode cL_law_ 2505 = .ok (.iload 4, 2) := by decide +kernel
theorem dl_law__2507 : decode cL_law_ 2507 = .ok (.bipush 6, 2) := by decide +kernel
theorem dl_law__2509 : decode cL_law_ 2509 = .ok (.iadd, 1) := by decide +kernel
theorem dl_law__2510 : decode cL_law_ 2510 = .ok (.iaload, 1) := by decide +kernel
theorem dl_law__2511 : decode cL_law_ 2511 = .ok (.invokevirtual 250, 3) := by decide +kernel
theorem dl_law__2514 : decode cL_law_ 2514 = .ok (.istore 6, 2) := by decide +kernel
theorem dl_law__2516 : decode cL_law_ 2516 = .ok (.aload_n 2, 1) := by decide +kernel
theorem dl_law__2517 : decode cL_law_ 2517 = .ok (.invokevirtual 134, 3) := by decide +kernel
theorem dl_law__2520 : decode cL_law_ 2520 = .ok (.iload 5, 2) := by decide +kernel
theorem dl_law__2522 : decode cL_law_ 2522 = .ok (.if_icmp .eq 5, 3) := by decide +kernel
theorem dl_law__2527 : decode cL_law_ 2527 = .ok (.iload 5, 2) := by decide +kernel
theorem dl_law__2529 : decode cL_law_ 2529 = .ok (.ifCond .ne 15, 3) := by decide +kernel
theorem dl_law__2532 : decode cL_law_ 2532 = .ok (.aload_n 3, 1) := by decide +kernel
theorem dl_law__2533 : decode cL_law_ 2533 = .ok (.iconst 0, 1) := by decide +kernel
theorem dl_law__2534 : decode cL_law_ 2534 = .ok (.laload, 1) := by decide +kernel
theorem dl_law__2535 : decode cL_law_ 2535 = .ok (.iload 6, 2) := by decide +kernel
theorem dl_law__2537 : decode cL_law_ 2537 = .ok (.i2l, 1) := by decide +kernel
theorem dl_law__2538 : decode cL_law_ 2538 = .ok (.lcmp, 1) := by decide +kernel
theorem dl_law__2539 : decode cL_law_ 2539 = .ok (.ifCond .eq 5, 3) := by decide +kernel
theorem dl_law__2544 : decode cL_law_ 2544 = .ok (.goto 79, 3) := by decide +kernel
theorem dl_law__2547 : decode cL_law_ 2547 = .ok (.aload_n 1, 1) := by decide +kernel
theorem dl_law__2548 : decode cL_law_ 2548 = .ok (.invokevirtual 251, 3) := by decide +kernel
theorem dl_law__2551 : decode cL_law_ 2551 = .ok (.aload_n 2, 1) := by decide +kernel
theorem dl_law__2552 : decode cL_law_ 2552 = .ok (.invokevirtual 254, 3) := by decide +kernel
theorem dl_law__2555 : decode cL_law_ 2555 = .ok (.if_icmp .eq 68, 3) := by decide +kernel
theorem dl_law__2560 : decode cL_law_ 2560 = .ok (.aload_n 1, 1) := by decide +kernel
theorem dl_law__2561 : decode cL_law_ 2561 = .ok (.invokevirtual 255, 3) := by decide +kernel
theorem dl_law__2564 : decode cL_law_ 2564 = .ok (.aload_n 2, 1) := by decide +kernel
theorem dl_law__2565 : decode cL_law_ 2565 = .ok (.invokevirtual 258, 3) := by decide +kernel
theorem dl_law__2568 : decode cL_law_ 2568 = .ok (.if_icmp .eq 55, 3) := by decide +kernel
theorem dl_law__2573 : decode cL_law_ 2573 = .ok (.aload_n 1, 1) := by decide +kernel
theorem dl_law__2574 : decode cL_law_ 2574 = .ok (.aload_n 0, 1) := by decide +kernel
theorem dl_law__2575 : decode cL_law_ 2575 = .ok (.iload 4, 2) := by decide +kernel
theorem dl_law__2577 : decode cL_law_ 2577 = .ok (.iconst 1, 1) := by decide +kernel
theorem dl_law__2578 : decode cL_law_ 2578 = .ok (.iadd, 1) := by decide +kernel
theorem dl_law__2579 : decode cL_law_ 2579 = .ok (.iaload, 1) := by decide +kernel
theorem dl_law__2580 : decode cL_law_ 2580 = .ok (.invokevirtual 259, 3) := by decide +kernel
theorem dl_law__2583 : decode cL_law_ 2583 = .ok (.aload_n 2, 1) := by decide +kernel
theorem dl_law__2584 : decode cL_law_ 2584 = .ok (.aload_n 0, 1) := by decide +kernel
theorem dl_law__2585 : decode cL_law_ 2585 = .ok (.iload 4, 2) := by decide +kernel
theorem dl_law__2587 : decode cL_law_ 2587 = .ok (.iconst 1, 1) := by decide +kernel
theorem dl_law__2588 : decode cL_law_ 2588 = .ok (.iadd, 1) := by decide +kernel
theorem dl_law__2589 : decode cL_law_ 2589 = .ok (.iaload, 1) := by decide +kernel
theorem dl_law__2590 : decode cL_law_ 2590 = .ok (.invokevirtual 262, 3) := by decide +kernel
theorem dl_law__2593 : decode cL_law_ 2593 = .ok (.if_icmp .eq 30, 3) := by decide +kernel
theorem dl_law__2598 : decode cL_law_ 2598 = .ok (.aload_n 1, 1) := by decide +kernel
theorem dl_law__2599 : decode cL_law_ 2599 = .ok (.aload_n 0, 1) := by decide +kernel
theorem dl_law__2600 : decode cL_law_ 2600 = .ok (.iload 4, 2) := by decide +kernel
theorem dl_law__2602 : decode cL_law_ 2602 = .ok (.iconst 1, 1) := by decide +kernel
theorem dl_law__2603 : decode cL_law_ 2603 = .ok (.iadd, 1) := by decide +kernel
theorem dl_law__2604 : decode cL_law_ 2604 = .ok (.iaload, 1) := by decide +kernel
theorem dl_law__2605 : decode cL_law_ 2605 = .ok (.invokevirtual 263, 3) := by decide +kernel
theorem dl_law__2608 : decode cL_law_ 2608 = .ok (.aload_n 2, 1) := by decide +kernel
theorem dl_law__2609 : decode cL_law_ 2609 = .ok (.aload_n 0, 1) := by decide +kernel
theorem dl_law__2610 : decode cL_law_ 2610 = .ok (.iload 4, 2) := by decide +kernel
theorem dl_law__2612 : decode cL_law_ 2612 = .ok (.iconst 1, 1) := by decide +kernel
theorem dl_law__2613 : decode cL_law_ 2613 = .ok (.iadd, 1) := by decide +kernel
theorem dl_law__2614 : decode cL_law_ 2614 = .ok (.iaload, 1) := by decide +kernel
theorem dl_law__2615 : decode cL_law_ 2615 = .ok (.invokevirtual 266, 3) := by decide +kernel
theorem dl_law__2618 : decode cL_law_ 2618 = .ok (.if_icmp .eq 5, 3) := by decide +kernel
theorem dl_law__2623 : decode cL_law_ 2623 = .ok (.iinc 4 9, 3) := by decide +kernel
theorem dl_law__2626 : decode cL_law_ 2626 = .ok (.goto (-2603), 3) := by decide +kernel
theorem dl_law__2629 : decode cL_law_ 2629 = .ok (.iconst 1, 1) := by decide +kernel
theorem dl_law__2630 : decode cL_law_ 2630 = .ok (.ireturn, 1) := by decide +kernel
theorem dl_like_0 : decode cL_like 0 = .ok (.aload_n 2, 1) := by decide +kernel
theorem dl_like_1 : decode cL_like 1 = .ok (.iconst 0, 1) := by decide +kernel
theorem dl_like_2 : decode cL_like 2 = .ok (.aload_n 0, 1) := by decide +kernel
theorem dl_like_3 : decode cL_like 3 = .ok (.iload_n 1, 1) := by decide +kernel
theorem dl_like_4 : decode cL_like 4 = .ok (.invokevirtual 52, 3) := by decide +kernel
theorem dl_like_7 : decode cL_like 7 = .ok (.i2l, 1) := by decide +kernel
theorem dl_like_8 : decode cL_like 8 = .ok (.lastore, 1) := by decide +kernel
theorem dl_like_9 : decode cL_like 9 = .ok (.goto 6, 3) := by decide +kernel
theorem dl_like_12 : decode cL_like 12 = .ok (.astore_n 3, 1) := by decide +kernel
theorem dl_like_13 : decode cL_like 13 = .ok (.iconst 1, 1) := by decide +kernel
theorem dl_like_14 : decode cL_like 14 = .ok (.ireturn, 1) := by decide +kernel
theorem dl_like_15 : decode cL_like 15 = .ok (.iconst 0, 1) := by decide +kernel
theorem dl_like_16 : decode cL_like 16 = .ok (.ireturn, 1) := by decide +kernel
theorem dl_masks_0 : decode cL_masks 0 = .ok (.aload_n 2, 1) := by decide +kernel
theorem dl_masks_1 : decode cL_masks 1 = .ok (.iconst 0, 1) := by decide +kernel
theorem dl_masks_2 : decode cL_masks 2 = .ok (.aload_n 0, 1) := by decide +kernel
theorem dl_masks_3 : decode cL_masks 3 = .ok (.iload_n 1, 1) := by decide +kernel
theorem dl_masks_4 : decode cL_masks 4 = .ok (.invokevirtual 99, 3) := by decide +kernel
theorem dl_masks_7 : decode cL_masks 7 = .ok (.i2l, 1) := by decide +kernel
theorem dl_masks_8 : decode cL_masks 8 = .ok (.lastore, 1) := by decide +kernel
theorem dl_masks_9 : decode cL_masks 9 = .ok (.goto 6, 3) := by decide +kernel
theorem dl_masks_12 : decode cL_masks 12 = .ok (.astore_n 3, 1) := by decide +kernel
theorem dl_masks_13 : decode cL_masks 13 = .ok (.iconst 1, 1) := by decide +kernel
theorem dl_masks_14 : decode cL_masks 14 = .ok (.ireturn, 1) := by decide +kernel
theorem dl_masks_15 : decode cL_masks 15 = .ok (.iconst 0, 1) := by decide +kernel
theorem dl_masks_16 : decode cL_masks 16 = .ok (.ireturn, 1) := by decide +kernel
theorem dl_mate_0 : decode cL_mate 0 = .ok (.aload_n 2, 1) := by decide +kernel
theorem dl_mate_1 : decode cL_mate 1 = .ok (.iconst 0, 1) := by decide +kernel
theorem dl_mate_2 : decode cL_mate 2 = .ok (.aload_n 0, 1) := by decide +kernel
theorem dl_mate_3 : decode cL_mate 3 = .ok (.iload_n 1, 1) := by decide +kernel
theorem dl_mate_4 : decode cL_mate 4 = .ok (.invokevirtual 58, 3) := by decide +kernel
theorem dl_mate_7 : decode cL_mate 7 = .ok (.i2l, 1) := by decide +kernel
theorem dl_mate_8 : decode cL_mate 8 = .ok (.lastore, 1) := by decide +kernel
theorem dl_mate_9 : decode cL_mate 9 = .ok (.goto 6, 3) := by decide +kernel
theorem dl_mate_12 : decode cL_mate 12 = .ok (.astore_n 3, 1) := by decide +kernel
theorem dl_mate_13 : decode cL_mate 13 = .ok (.iconst 1, 1) := by decide +kernel
theorem dl_mate_14 : decode cL_mate 14 = .ok (.ireturn, 1) := by decide +kernel
theorem dl_mate_15 : decode cL_mate 15 = .ok (.iconst 0, 1) := by decide +kernel
theorem dl_mate_16 : decode cL_mate 16 = .ok (.ireturn, 1) := by decide +kernel
theorem dl_middling_0 : decode cL_middling 0 = .ok (.aload_n 2, 1) := by decide +kernel
theorem dl_middling_1 : decode cL_middling 1 = .ok (.iconst 0, 1) := by decide +kernel
theorem dl_middling_2 : decode cL_middling 2 = .ok (.aload_n 0, 1) := by decide +kernel
theorem dl_middling_3 : decode cL_middling 3 = .ok (.iload_n 1, 1) := by decide +kernel
theorem dl_middling_4 : decode cL_middling 4 = .ok (.invokevirtual 70, 3) := by decide +kernel
theorem dl_middling_7 : decode cL_middling 7 = .ok (.i2l, 1) := by decide +kernel
theorem dl_middling_8 : decode cL_middling 8 = .ok (.lastore, 1) := by decide +kernel
theorem dl_middling_9 : decode cL_middling 9 = .ok (.goto 6, 3) := by decide +kernel
theorem dl_middling_12 : decode cL_middling 12 = .ok (.astore_n 3, 1) := by decide +kernel
theorem dl_middling_13 : decode cL_middling 13 = .ok (.iconst 1, 1) := by decide +kernel
theorem dl_middling_14 : decode cL_middling 14 = .ok (.ireturn, 1) := by decide +kernel
theorem dl_middling_15 : decode cL_middling 15 = .ok (.iconst 0, 1) := by decide +kernel
theorem dl_middling_16 : decode cL_middling 16 = .ok (.ireturn, 1) := by decide +kernel
theorem dl_mild_0 : decode cL_mild 0 = .ok (.aload_n 2, 1) := by decide +kernel
theorem dl_mild_1 : decode cL_mild 1 = .ok (.iconst 0, 1) := by decide +kernel
theorem dl_mild_2 : decode cL_mild 2 = .ok (.aload_n 0, 1) := by decide +kernel
theorem dl_mild_3 : decode cL_mild 3 = .ok (.iload_n 1, 1) := by decide +kernel
theorem dl_mild_4 : decode cL_mild 4 = .ok (.invokevirtual 105, 3) := by decide +kernel
theorem dl_mild_7 : decode cL_mild 7 = .ok (.i2l, 1) := by decide +kernel
theorem dl_mild_8 : decode cL_mild 8 = .ok (.lastore, 1) := by decide +kernel
theorem dl_mild_9 : decode cL_mild 9 = .ok (.goto 6, 3) := by decide +kernel
theorem dl_mild_12 : decode cL_mild 12 = .ok (.astore_n 3, 1) := by decide +kernel
theorem dl_mild_13 : decode cL_mild 13 = .ok (.iconst 1, 1) := by decide +kernel
theorem dl_mild_14 : decode cL_mild 14 = .ok (.ireturn, 1) := by decide +kernel
theorem dl_mild_15 : decode cL_mild 15 = .ok (.iconst 0, 1) := by decide +kernel
theorem dl_mild_16 : decode cL_mild 16 = .ok (.ireturn, 1) := by decide +kernel
theorem dl_nearest_0 : decode cL_nearest 0 = .ok (.aload_n 2, 1) := by decide +kernel
theorem dl_nearest_1 : decode cL_nearest 1 = .ok (.iconst 0, 1) := by decide +kernel
theorem dl_nearest_2 : decode cL_nearest 2 = .ok (.aload_n 0, 1) := by decide +kernel
theorem dl_nearest_3 : decode cL_nearest 3 = .ok (.iload_n 1, 1) := by decide +kernel
theorem dl_nearest_4 : decode cL_nearest 4 = .ok (.invokevirtual 93, 3) := by decide +kernel
theorem dl_nearest_7 : decode cL_nearest 7 = .ok (.i2l, 1) := by decide +kernel
theorem dl_nearest_8 : decode cL_nearest 8 = .ok (.lastore, 1) := by decide +kernel
theorem dl_nearest_9 : decode cL_nearest 9 = .ok (.goto 6, 3) := by decide +kernel
theorem dl_nearest_12 : decode cL_nearest 12 = .ok (.astore_n 3, 1) := by decide +kernel
theorem dl_nearest_13 : decode cL_nearest 13 = .ok (.iconst 1, 1) := by decide +kernel
theorem dl_nearest_14 : decode cL_nearest 14 = .ok (.ireturn, 1) := by decide +kernel
theorem dl_nearest_15 : decode cL_nearest 15 = .ok (.iconst 0, 1) := by decide +kernel
theorem dl_nearest_16 : decode cL_nearest 16 = .ok (.ireturn, 1) := by decide +kernel
theorem dl_oldest_0 : decode cL_oldest 0 = .ok (.aload_n 2, 1) := by decide +kernel
theorem dl_oldest_1 : decode cL_oldest 1 = .ok (.iconst 0, 1) := by decide +kernel
theorem dl_oldest_2 : decode cL_oldest 2 = .ok (.aload_n 0, 1) := by decide +kernel
theorem dl_oldest_3 : decode cL_oldest 3 = .ok (.iload_n 1, 1) := by decide +kernel
theorem dl_oldest_4 : decode cL_oldest 4 = .ok (.invokevirtual 84, 3) := by decide +kernel
theorem dl_oldest_7 : decode cL_oldest 7 = .ok (.i2l, 1) := by decide +kernel
theorem dl_oldest_8 : decode cL_oldest 8 = .ok (.lastore, 1) := by decide +kernel
theorem dl_oldest_9 : decode cL_oldest 9 = .ok (.goto 6, 3) := by decide +kernel
theorem dl_oldest_12 : decode cL_oldest 12 = .ok (.astore_n 3, 1) := by decide +kernel
theorem dl_oldest_13 : decode cL_oldest 13 = .ok (.iconst 1, 1) := by decide +kernel
theorem dl_oldest_14 : decode cL_oldest 14 = .ok (.ireturn, 1) := by decide +kernel
theorem dl_oldest_15 : decode cL_oldest 15 = .ok (.iconst 0, 1) := by decide +kernel
theorem dl_oldest_16 : decode cL_oldest 16 = .ok (.ireturn, 1) := by decide +kernel
theorem dl_person_0 : decode cL_person 0 = .ok (.aload_n 3, 1) := by decide +kernel
theorem dl_person_1 : decode cL_person 1 = .ok (.iconst 0, 1) := by decide +kernel
theorem dl_person_2 : decode cL_person 2 = .ok (.aload_n 0, 1) := by decide +kernel
theorem dl_person_3 : decode cL_person 3 = .ok (.iload_n 1, 1) := by decide +kernel
theorem dl_person_4 : decode cL_person 4 = .ok (.iload_n 2, 1) := by decide +kernel
theorem dl_person_5 : decode cL_person 5 = .ok (.invokevirtual 27, 3) := by decide +kernel
theorem dl_person_8 : decode cL_person 8 = .ok (.i2l, 1) := by decide +kernel
theorem dl_person_9 : decode cL_person 9 = .ok (.lastore, 1) := by decide +kernel
theorem dl_person_10 : decode cL_person 10 = .ok (.goto 11, 3) := by decide +kernel
theorem dl_person_13 : decode cL_person 13 = .ok (.astore 4, 2) := by decide +kernel
theorem dl_person_15 : decode cL_person 15 = .ok (.iconst 1, 1) := by decide +kernel
theorem dl_person_16 : decode cL_person 16 = .ok (.ireturn, 1) := by decide +kernel
theorem dl_person_17 : decode cL_person 17 = .ok (.astore 4, 2) := by decide +kernel
theorem dl_person_19 : decode cL_person 19 = .ok (.iconst 2, 1) := by decide +kernel
theorem dl_person_20 : decode cL_person 20 = .ok (.ireturn, 1) := by decide +kernel
theorem dl_person_21 : decode cL_person 21 = .ok (.iconst 0, 1) := by decide +kernel
theorem dl_person_22 : decode cL_person 22 = .ok (.ireturn, 1) := by decide +kernel
theorem dl_rank_0 : decode cL_rank 0 = .ok (.aload_n 2, 1) := by decide +kernel
theorem dl_rank_1 : decode cL_rank 1 = .ok (.iconst 0, 1) := by decide +kernel
theorem dl_rank_2 : decode cL_rank 2 = .ok (.aload_n 0, 1) := by decide +kernel
theorem dl_rank_3 : decode cL_rank 3 = .ok (.iload_n 1, 1) := by decide +kernel
theorem dl_rank_4 : decode cL_rank 4 = .ok (.invokevirtual 102, 3) := by decide +kernel
theorem dl_rank_7 : decode cL_rank 7 = .ok (.i2l, 1) := by decide +kernel
theorem dl_rank_8 : decode cL_rank 8 = .ok (.lastore, 1) := by decide +kernel
theorem dl_rank_9 : decode cL_rank 9 = .ok (.goto 6, 3) := by decide +kernel
theorem dl_rank_12 : decode cL_rank 12 = .ok (.astore_n 3, 1) := by decide +kernel
theorem dl_rank_13 : decode cL_rank 13 = .ok (.iconst 1, 1) := by decide +kernel
theorem dl_rank_14 : decode cL_rank 14 = .ok (.ireturn, 1) := by decide +kernel
theorem dl_rank_15 : decode cL_rank 15 = .ok (.iconst 0, 1) := by decide +kernel
theorem dl_rank_16 : decode cL_rank 16 = .ok (.ireturn, 1) := by decide +kernel
theorem dl_ring_0 : decode cL_ring 0 = .ok (.aload_n 3, 1) := by decide +kernel
theorem dl_ring_1 : decode cL_ring 1 = .ok (.iconst 0, 1) := by decide +kernel
theorem dl_ring_2 : decode cL_ring 2 = .ok (.aload_n 0, 1) := by decide +kernel
theorem dl_ring_3 : decode cL_ring 3 = .ok (.iload_n 1, 1) := by decide +kernel
theorem dl_ring_4 : decode cL_ring 4 = .ok (.iload_n 2, 1) := by decide +kernel
theorem dl_ring_5 : decode cL_ring 5 = .ok (.invokevirtual 49, 3) := by decide +kernel
theorem dl_ring_8 : decode cL_ring 8 = .ok (.i2l, 1) := by decide +kernel
theorem dl_ring_9 : decode cL_ring 9 = .ok (.lastore, 1) := by decide +kernel
theorem dl_ring_10 : decode cL_ring 10 = .ok (.goto 11, 3) := by decide +kernel
theorem dl_ring_13 : decode cL_ring 13 = .ok (.astore 4, 2) := by decide +kernel
theorem dl_ring_15 : decode cL_ring 15 = .ok (.iconst 1, 1) := by decide +kernel
theorem dl_ring_16 : decode cL_ring 16 = .ok (.ireturn, 1) := by decide +kernel
theorem dl_ring_17 : decode cL_ring 17 = .ok (.astore 4, 2) := by decide +kernel
theorem dl_ring_19 : decode cL_ring 19 = .ok (.iconst 2, 1) := by decide +kernel
theorem dl_ring_20 : decode cL_ring 20 = .ok (.ireturn, 1) := by decide +kernel
theorem dl_ring_21 : decode cL_ring 21 = .ok (.iconst 0, 1) := by decide +kernel
theorem dl_ring_22 : decode cL_ring 22 = .ok (.ireturn, 1) := by decide +kernel
theorem dl_row_0 : decode cL_row 0 = .ok (.aload_n 2, 1) := by decide +kernel
theorem dl_row_1 : decode cL_row 1 = .ok (.iconst 0, 1) := by decide +kernel
theorem dl_row_2 : decode cL_row 2 = .ok (.aload_n 0, 1) := by decide +kernel
theorem dl_row_3 : decode cL_row 3 = .ok (.iload_n 1, 1) := by decide +kernel
theorem dl_row_4 : decode cL_row 4 = .ok (.invokevirtual 61, 3) := by decide +kernel
theorem dl_row_7 : decode cL_row 7 = .ok (.i2l, 1) := by decide +kernel
theorem dl_row_8 : decode cL_row 8 = .ok (.lastore, 1) := by decide +kernel
theorem dl_row_9 : decode cL_row 9 = .ok (.goto 6, 3) := by decide +kernel
theorem dl_row_12 : decode cL_row 12 = .ok (.astore_n 3, 1) := by decide +kernel
theorem dl_row_13 : decode cL_row 13 = .ok (.iconst 1, 1) := by decide +kernel
theorem dl_row_14 : decode cL_row 14 = .ok (.ireturn, 1) := by decide +kernel
theorem dl_row_15 : decode cL_row 15 = .ok (.iconst 0, 1) := by decide +kernel
theorem dl_row_16 : decode cL_row 16 = .ok (.ireturn, 1) := by decide +kernel
theorem dl_rowed_0 : decode cL_rowed 0 = .ok (.aload_n 3, 1) := by decide +kernel
theorem dl_rowed_1 : decode cL_rowed 1 = .ok (.iconst 0, 1) := by decide +kernel
theorem dl_rowed_2 : decode cL_rowed 2 = .ok (.aload_n 0, 1) := by decide +kernel
theorem dl_rowed_3 : decode cL_rowed 3 = .ok (.iload_n 1, 1) := by decide +kernel
theorem dl_rowed_4 : decode cL_rowed 4 = .ok (.iload_n 2, 1) := by decide +kernel
theorem dl_rowed_5 : decode cL_rowed 5 = .ok (.invokevirtual 64, 3) := by decide +kernel
theorem dl_rowed_8 : decode cL_rowed 8 = .ok (.i2l, 1) := by decide +kernel
theorem dl_rowed_9 : decode cL_rowed 9 = .ok (.lastore, 1) := by decide +kernel
theorem dl_rowed_10 : decode cL_rowed 10 = .ok (.goto 7, 3) := by decide +kernel
theorem dl_rowed_13 : decode cL_rowed 13 = .ok (.astore 4, 2) := by decide +kernel
theorem dl_rowed_15 : decode cL_rowed 15 = .ok (.iconst 1, 1) := by decide +kernel
theorem dl_rowed_16 : decode cL_rowed 16 = .ok (.ireturn, 1) := by decide +kernel
theorem dl_rowed_17 : decode cL_rowed 17 = .ok (.iconst 0, 1) := by decide +kernel
theorem dl_rowed_18 : decode cL_rowed 18 = .ok (.ireturn, 1) := by decide +kernel
theorem dl_span_0 : decode cL_span 0 = .ok (.aload 7, 2) := by decide +kernel
theorem dl_span_2 : decode cL_span 2 = .ok (.iconst 0, 1) := by decide +kernel
theorem dl_span_3 : decode cL_span 3 = .ok (.aload_n 0, 1) := by decide +kernel
theorem dl_span_4 : decode cL_span 4 = .ok (.iload_n 1, 1) := by decide +kernel
theorem dl_span_5 : decode cL_span 5 = .ok (.iload_n 2, 1) := by decide +kernel
theorem dl_span_6 : decode cL_span 6 = .ok (.iload_n 3, 1) := by decide +kernel
theorem dl_span_7 : decode cL_span 7 = .ok (.iload 4, 2) := by decide +kernel
theorem dl_span_9 : decode cL_span 9 = .ok (.iload 5, 2) := by decide +kernel
theorem dl_span_11 : decode cL_span 11 = .ok (.iload 6, 2) := by decide +kernel
theorem dl_span_13 : decode cL_span 13 = .ok (.invokevirtual 115, 3) := by decide +kernel
theorem dl_span_16 : decode cL_span 16 = .ok (.i2l, 1) := by decide +kernel
theorem dl_span_17 : decode cL_span 17 = .ok (.lastore, 1) := by decide +kernel
theorem dl_span_18 : decode cL_span 18 = .ok (.goto 7, 3) := by decide +kernel
theorem dl_span_21 : decode cL_span 21 = .ok (.astore 8, 2) := by decide +kernel
theorem dl_span_23 : decode cL_span 23 = .ok (.iconst 1, 1) := by decide +kernel
theorem dl_span_24 : decode cL_span 24 = .ok (.ireturn, 1) := by decide +kernel
theorem dl_span_25 : decode cL_span 25 = .ok (.iconst 0, 1) := by decide +kernel
theorem dl_span_26 : decode cL_span 26 = .ok (.ireturn, 1) := by decide +kernel
theorem dl_spread_0 : decode cL_spread 0 = .ok (.aload_n 3, 1) := by decide +kernel
theorem dl_spread_1 : decode cL_spread 1 = .ok (.iconst 0, 1) := by decide +kernel
theorem dl_spread_2 : decode cL_spread 2 = .ok (.aload_n 0, 1) := by decide +kernel
theorem dl_spread_3 : decode cL_spread 3 = .ok (.iload_n 1, 1) := by decide +kernel
theorem dl_spread_4 : decode cL_spread 4 = .ok (.iload_n 2, 1) := by decide +kernel
theorem dl_spread_5 : decode cL_spread 5 = .ok (.invokevirtual 96, 3) := by decide +kernel
theorem dl_spread_8 : decode cL_spread 8 = .ok (.i2l, 1) := by decide +kernel
theorem dl_spread_9 : decode cL_spread 9 = .ok (.lastore, 1) := by decide +kernel
theorem dl_spread_10 : decode cL_spread 10 = .ok (.goto 7, 3) := by decide +kernel
theorem dl_spread_13 : decode cL_spread 13 = .ok (.astore 4, 2) := by decide +kernel
theorem dl_spread_15 : decode cL_spread 15 = .ok (.iconst 1, 1) := by decide +kernel
theorem dl_spread_16 : decode cL_spread 16 = .ok (.ireturn, 1) := by decide +kernel
theorem dl_spread_17 : decode cL_spread 17 = .ok (.iconst 0, 1) := by decide +kernel
theorem dl_spread_18 : decode cL_spread 18 = .ok (.ireturn, 1) := by decide +kernel
theorem dl_told_0 : decode cL_told 0 = .ok (.aload_n 2, 1) := by decide +kernel
theorem dl_told_1 : decode cL_told 1 = .ok (.iconst 0, 1) := by decide +kernel
theorem dl_told_2 : decode cL_told 2 = .ok (.aload_n 0, 1) := by decide +kernel
theorem dl_told_3 : decode cL_told 3 = .ok (.iload_n 1, 1) := by decide +kernel
theorem dl_told_4 : decode cL_told 4 = .ok (.invokevirtual 24, 3) := by decide +kernel
theorem dl_told_7 : decode cL_told 7 = .ok (.i2l, 1) := by decide +kernel
theorem dl_told_8 : decode cL_told 8 = .ok (.lastore, 1) := by decide +kernel
theorem dl_told_9 : decode cL_told 9 = .ok (.goto 6, 3) := by decide +kernel
theorem dl_told_12 : decode cL_told 12 = .ok (.astore_n 3, 1) := by decide +kernel
theorem dl_told_13 : decode cL_told 13 = .ok (.iconst 1, 1) := by decide +kernel
theorem dl_told_14 : decode cL_told 14 = .ok (.ireturn, 1) := by decide +kernel
theorem dl_told_15 : decode cL_told 15 = .ok (.iconst 0, 1) := by decide +kernel
theorem dl_told_16 : decode cL_told 16 = .ok (.ireturn, 1) := by decide +kernel
theorem dl_unlike_0 : decode cL_unlike 0 = .ok (.aload_n 2, 1) := by decide +kernel
theorem dl_unlike_1 : decode cL_unlike 1 = .ok (.iconst 0, 1) := by decide +kernel
theorem dl_unlike_2 : decode cL_unlike 2 = .ok (.aload_n 0, 1) := by decide +kernel
theorem dl_unlike_3 : decode cL_unlike 3 = .ok (.iload_n 1, 1) := by decide +kernel
theorem dl_unlike_4 : decode cL_unlike 4 = .ok (.invokevirtual 108, 3) := by decide +kernel
theorem dl_unlike_7 : decode cL_unlike 7 = .ok (.i2l, 1) := by decide +kernel
theorem dl_unlike_8 : decode cL_unlike 8 = .ok (.lastore, 1) := by decide +kernel
theorem dl_unlike_9 : decode cL_unlike 9 = .ok (.goto 6, 3) := by decide +kernel
theorem dl_unlike_12 : decode cL_unlike 12 = .ok (.astore_n 3, 1) := by decide +kernel
theorem dl_unlike_13 : decode cL_unlike 13 = .ok (.iconst 1, 1) := by decide +kernel
theorem dl_unlike_14 : decode cL_unlike 14 = .ok (.ireturn, 1) := by decide +kernel
theorem dl_unlike_15 : decode cL_unlike 15 = .ok (.iconst 0, 1) := by decide +kernel
theorem dl_unlike_16 : decode cL_unlike 16 = .ok (.ireturn, 1) := by decide +kernel
theorem dl_work_0 : decode cL_work 0 = .ok (.aload_n 2, 1) := by decide +kernel
theorem dl_work_1 : decode cL_work 1 = .ok (.iconst 0, 1) := by decide +kernel
theorem dl_work_2 : decode cL_work 2 = .ok (.aload_n 0, 1) := by decide +kernel
theorem dl_work_3 : decode cL_work 3 = .ok (.iload_n 1, 1) := by decide +kernel
theorem dl_work_4 : decode cL_work 4 = .ok (.invokevirtual 18, 3) := by decide +kernel
theorem dl_work_7 : decode cL_work 7 = .ok (.i2l, 1) := by decide +kernel
theorem dl_work_8 : decode cL_work 8 = .ok (.lastore, 1) := by decide +kernel
theorem dl_work_9 : decode cL_work 9 = .ok (.goto 6, 3) := by decide +kernel
theorem dl_work_12 : decode cL_work 12 = .ok (.astore_n 3, 1) := by decide +kernel
theorem dl_work_13 : decode cL_work 13 = .ok (.iconst 1, 1) := by decide +kernel
theorem dl_work_14 : decode cL_work 14 = .ok (.ireturn, 1) := by decide +kernel
theorem dl_work_15 : decode cL_work 15 = .ok (.iconst 0, 1) := by decide +kernel
theorem dl_work_16 : decode cL_work 16 = .ok (.ireturn, 1) := by decide +kernel
theorem dl_would_0 : decode cL_would 0 = .ok (.aload 9, 2) := by decide +kernel
theorem dl_would_2 : decode cL_would 2 = .ok (.iconst 0, 1) := by decide +kernel
theorem dl_would_3 : decode cL_would 3 = .ok (.aload_n 0, 1) := by decide +kernel
theorem dl_would_4 : decode cL_would 4 = .ok (.iload_n 1, 1) := by decide +kernel
theorem dl_would_5 : decode cL_would 5 = .ok (.iload_n 2, 1) := by decide +kernel
theorem dl_would_6 : decode cL_would 6 = .ok (.iload_n 3, 1) := by decide +kernel
theorem dl_would_7 : decode cL_would 7 = .ok (.iload 4, 2) := by decide +kernel
theorem dl_would_9 : decode cL_would 9 = .ok (.iload 5, 2) := by decide +kernel
theorem dl_would_11 : decode cL_would 11 = .ok (.iload 6, 2) := by decide +kernel
theorem dl_would_13 : decode cL_would 13 = .ok (.iload 7, 2) := by decide +kernel
theorem dl_would_15 : decode cL_would 15 = .ok (.iload 8, 2) := by decide +kernel
theorem dl_would_17 : decode cL_would 17 = .ok (.invokevirtual 36, 3) := by decide +kernel
theorem dl_would_20 : decode cL_would 20 = .ok (.i2l, 1) := by decide +kernel
theorem dl_would_21 : decode cL_would 21 = .ok (.lastore, 1) := by decide +kernel
theorem dl_would_22 : decode cL_would 22 = .ok (.goto 7, 3) := by decide +kernel
theorem dl_would_25 : decode cL_would 25 = .ok (.astore 10, 2) := by decide +kernel
theorem dl_would_27 : decode cL_would 27 = .ok (.iconst 1, 1) := by decide +kernel
theorem dl_would_28 : decode cL_would 28 = .ok (.ireturn, 1) := by decide +kernel
theorem dl_would_29 : decode cL_would 29 = .ok (.iconst 0, 1) := by decide +kernel
theorem dl_would_30 : decode cL_would 30 = .ok (.ireturn, 1) := by decide +kernel
