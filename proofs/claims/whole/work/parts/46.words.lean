/-! words of the tables that are used, printed by gen_static.py; what is so of each method that is called -/
theorem wd0 : Cond.classLink "WaitingWritesLaw" 7 "WaitingWrites" ∈ gw := g0 (i := 15) rfl rfl
theorem wd1 : Cond.instantiable "WaitingWrites" 19 ∈ gw := g0 (i := 16) rfl rfl
theorem wd2 : Cond.initialized "WaitingWrites" ∈ gw := g0 (i := 1) rfl rfl
theorem wd3 : Cond.methodLink "WaitingWritesLaw" 9 ⟨"WaitingWrites", "<init>", "()V"⟩ ∈ gw := g0 (i := 17) rfl rfl
theorem wd4 : Cond.instanceMethod ⟨"WaitingWrites", "<init>", "()V"⟩ ∈ gw := g0 (i := 18) rfl rfl
theorem wd5 : Cond.classLink "WaitingWritesLaw" 10 "WaitingWritesModel" ∈ gw := g2 (i := 231) rfl rfl
theorem wd6 : Cond.instantiable "WaitingWritesModel" 40 ∈ gw := g2 (i := 232) rfl rfl
theorem wd7 : Cond.initialized "WaitingWritesModel" ∈ gw := g0 (i := 13) rfl rfl
theorem wd8 : Cond.methodLink "WaitingWritesLaw" 12 ⟨"WaitingWritesModel", "<init>", "()V"⟩ ∈ gw := g2 (i := 233) rfl rfl
theorem wd9 : Cond.instanceMethod ⟨"WaitingWritesModel", "<init>", "()V"⟩ ∈ gw := g2 (i := 234) rfl rfl
theorem wd10 : Cond.methodLink "WaitingWritesLaw" 13 ⟨"WaitingWrites", "feed", "(IIIII)I"⟩ ∈ gw := g1 (i := 132) rfl rfl
theorem wd11 : Cond.instanceMethod ⟨"WaitingWrites", "feed", "(IIIII)I"⟩ ∈ gw := g1 (i := 133) rfl rfl
theorem wd12 : Cond.selects "WaitingWrites" ⟨"WaitingWrites", "feed", "(IIIII)I"⟩ ⟨"WaitingWrites", "feed", "(IIIII)I"⟩ ∈ gw := g1 (i := 134) rfl rfl
theorem wd13 : Cond.methodLink "WaitingWritesLaw" 17 ⟨"WaitingWritesModel", "feed", "(IIIII)I"⟩ ∈ gw := g3 (i := 118) rfl rfl
theorem wd14 : Cond.instanceMethod ⟨"WaitingWritesModel", "feed", "(IIIII)I"⟩ ∈ gw := g3 (i := 119) rfl rfl
theorem wd15 : Cond.selects "WaitingWritesModel" ⟨"WaitingWritesModel", "feed", "(IIIII)I"⟩ ⟨"WaitingWritesModel", "feed", "(IIIII)I"⟩ ∈ gw := g3 (i := 120) rfl rfl
theorem wd16 : Cond.methodLink "WaitingWritesLaw" 18 ⟨"WaitingWrites", "put", "(II)I"⟩ ∈ gw := g1 (i := 145) rfl rfl
theorem wd17 : Cond.instanceMethod ⟨"WaitingWrites", "put", "(II)I"⟩ ∈ gw := g1 (i := 146) rfl rfl
theorem wd18 : Cond.selects "WaitingWrites" ⟨"WaitingWrites", "put", "(II)I"⟩ ⟨"WaitingWrites", "put", "(II)I"⟩ ∈ gw := g1 (i := 147) rfl rfl
theorem wd19 : Cond.methodLink "WaitingWritesLaw" 22 ⟨"WaitingWritesModel", "put", "(II)I"⟩ ∈ gw := g3 (i := 122) rfl rfl
theorem wd20 : Cond.instanceMethod ⟨"WaitingWritesModel", "put", "(II)I"⟩ ∈ gw := g3 (i := 123) rfl rfl
theorem wd21 : Cond.selects "WaitingWritesModel" ⟨"WaitingWritesModel", "put", "(II)I"⟩ ⟨"WaitingWritesModel", "put", "(II)I"⟩ ∈ gw := g3 (i := 124) rfl rfl
theorem wd22 : Cond.methodLink "WaitingWritesLaw" 23 ⟨"WaitingWrites", "delete", "(I)I"⟩ ∈ gw := g1 (i := 211) rfl rfl
theorem wd23 : Cond.instanceMethod ⟨"WaitingWrites", "delete", "(I)I"⟩ ∈ gw := g1 (i := 212) rfl rfl
theorem wd24 : Cond.selects "WaitingWrites" ⟨"WaitingWrites", "delete", "(I)I"⟩ ⟨"WaitingWrites", "delete", "(I)I"⟩ ∈ gw := g1 (i := 213) rfl rfl
theorem wd25 : Cond.methodLink "WaitingWritesLaw" 27 ⟨"WaitingWritesModel", "delete", "(I)I"⟩ ∈ gw := g3 (i := 160) rfl rfl
theorem wd26 : Cond.instanceMethod ⟨"WaitingWritesModel", "delete", "(I)I"⟩ ∈ gw := g3 (i := 161) rfl rfl
theorem wd27 : Cond.selects "WaitingWritesModel" ⟨"WaitingWritesModel", "delete", "(I)I"⟩ ⟨"WaitingWritesModel", "delete", "(I)I"⟩ ∈ gw := g3 (i := 162) rfl rfl
theorem wd28 : Cond.methodLink "WaitingWritesLaw" 28 ⟨"WaitingWrites", "get", "(I)I"⟩ ∈ gw := g1 (i := 223) rfl rfl
theorem wd29 : Cond.instanceMethod ⟨"WaitingWrites", "get", "(I)I"⟩ ∈ gw := g1 (i := 224) rfl rfl
theorem wd30 : Cond.selects "WaitingWrites" ⟨"WaitingWrites", "get", "(I)I"⟩ ⟨"WaitingWrites", "get", "(I)I"⟩ ∈ gw := g1 (i := 225) rfl rfl
theorem wd31 : Cond.methodLink "WaitingWritesLaw" 31 ⟨"WaitingWritesModel", "get", "(I)I"⟩ ∈ gw := g3 (i := 168) rfl rfl
theorem wd32 : Cond.instanceMethod ⟨"WaitingWritesModel", "get", "(I)I"⟩ ∈ gw := g3 (i := 169) rfl rfl
theorem wd33 : Cond.selects "WaitingWritesModel" ⟨"WaitingWritesModel", "get", "(I)I"⟩ ⟨"WaitingWritesModel", "get", "(I)I"⟩ ∈ gw := g3 (i := 170) rfl rfl
theorem wd34 : Cond.methodLink "WaitingWritesLaw" 32 ⟨"WaitingWrites", "octet", "(I)I"⟩ ∈ gw := g1 (i := 227) rfl rfl
theorem wd35 : Cond.instanceMethod ⟨"WaitingWrites", "octet", "(I)I"⟩ ∈ gw := g1 (i := 228) rfl rfl
theorem wd36 : Cond.selects "WaitingWrites" ⟨"WaitingWrites", "octet", "(I)I"⟩ ⟨"WaitingWrites", "octet", "(I)I"⟩ ∈ gw := g1 (i := 229) rfl rfl
theorem wd37 : Cond.methodLink "WaitingWritesLaw" 35 ⟨"WaitingWritesModel", "octet", "(I)I"⟩ ∈ gw := g3 (i := 196) rfl rfl
theorem wd38 : Cond.instanceMethod ⟨"WaitingWritesModel", "octet", "(I)I"⟩ ∈ gw := g3 (i := 197) rfl rfl
theorem wd39 : Cond.selects "WaitingWritesModel" ⟨"WaitingWritesModel", "octet", "(I)I"⟩ ⟨"WaitingWritesModel", "octet", "(I)I"⟩ ∈ gw := g3 (i := 198) rfl rfl
theorem wd40 : Cond.methodLink "WaitingWritesLaw" 36 ⟨"WaitingWrites", "list", "(I)I"⟩ ∈ gw := g1 (i := 232) rfl rfl
theorem wd41 : Cond.instanceMethod ⟨"WaitingWrites", "list", "(I)I"⟩ ∈ gw := g1 (i := 233) rfl rfl
theorem wd42 : Cond.selects "WaitingWrites" ⟨"WaitingWrites", "list", "(I)I"⟩ ⟨"WaitingWrites", "list", "(I)I"⟩ ∈ gw := g1 (i := 234) rfl rfl
theorem wd43 : Cond.methodLink "WaitingWritesLaw" 39 ⟨"WaitingWritesModel", "list", "(I)I"⟩ ∈ gw := g3 (i := 200) rfl rfl
theorem wd44 : Cond.instanceMethod ⟨"WaitingWritesModel", "list", "(I)I"⟩ ∈ gw := g3 (i := 201) rfl rfl
theorem wd45 : Cond.selects "WaitingWritesModel" ⟨"WaitingWritesModel", "list", "(I)I"⟩ ⟨"WaitingWritesModel", "list", "(I)I"⟩ ∈ gw := g3 (i := 202) rfl rfl
theorem wd46 : Cond.methodLink "WaitingWritesLaw" 40 ⟨"WaitingWrites", "flush", "()I"⟩ ∈ gw := g1 (i := 236) rfl rfl
theorem wd47 : Cond.instanceMethod ⟨"WaitingWrites", "flush", "()I"⟩ ∈ gw := g1 (i := 237) rfl rfl
theorem wd48 : Cond.selects "WaitingWrites" ⟨"WaitingWrites", "flush", "()I"⟩ ⟨"WaitingWrites", "flush", "()I"⟩ ∈ gw := g1 (i := 238) rfl rfl
theorem wd49 : Cond.methodLink "WaitingWritesLaw" 44 ⟨"WaitingWritesModel", "flush", "()I"⟩ ∈ gw := g3 (i := 204) rfl rfl
theorem wd50 : Cond.instanceMethod ⟨"WaitingWritesModel", "flush", "()I"⟩ ∈ gw := g3 (i := 205) rfl rfl
theorem wd51 : Cond.selects "WaitingWritesModel" ⟨"WaitingWritesModel", "flush", "()I"⟩ ⟨"WaitingWritesModel", "flush", "()I"⟩ ∈ gw := g3 (i := 206) rfl rfl
theorem wd52 : Cond.methodLink "WaitingWritesLaw" 45 ⟨"WaitingWrites", "reclaim", "(I)I"⟩ ∈ gw := g2 (i := 86) rfl rfl
theorem wd53 : Cond.instanceMethod ⟨"WaitingWrites", "reclaim", "(I)I"⟩ ∈ gw := g2 (i := 87) rfl rfl
theorem wd54 : Cond.selects "WaitingWrites" ⟨"WaitingWrites", "reclaim", "(I)I"⟩ ⟨"WaitingWrites", "reclaim", "(I)I"⟩ ∈ gw := g2 (i := 88) rfl rfl
theorem wd55 : Cond.methodLink "WaitingWritesLaw" 48 ⟨"WaitingWritesModel", "reclaim", "(I)I"⟩ ∈ gw := g3 (i := 228) rfl rfl
theorem wd56 : Cond.instanceMethod ⟨"WaitingWritesModel", "reclaim", "(I)I"⟩ ∈ gw := g3 (i := 229) rfl rfl
theorem wd57 : Cond.selects "WaitingWritesModel" ⟨"WaitingWritesModel", "reclaim", "(I)I"⟩ ⟨"WaitingWritesModel", "reclaim", "(I)I"⟩ ∈ gw := g3 (i := 230) rfl rfl
theorem wd58 : Cond.methodLink "WaitingWritesLaw" 49 ⟨"WaitingWrites", "poll", "(I)I"⟩ ∈ gw := g2 (i := 116) rfl rfl
theorem wd59 : Cond.instanceMethod ⟨"WaitingWrites", "poll", "(I)I"⟩ ∈ gw := g2 (i := 117) rfl rfl
theorem wd60 : Cond.selects "WaitingWrites" ⟨"WaitingWrites", "poll", "(I)I"⟩ ⟨"WaitingWrites", "poll", "(I)I"⟩ ∈ gw := g2 (i := 118) rfl rfl
theorem wd61 : Cond.methodLink "WaitingWritesLaw" 52 ⟨"WaitingWritesModel", "poll", "(I)I"⟩ ∈ gw := g4 (i := 0) rfl rfl
theorem wd62 : Cond.instanceMethod ⟨"WaitingWritesModel", "poll", "(I)I"⟩ ∈ gw := g4 (i := 1) rfl rfl
theorem wd63 : Cond.selects "WaitingWritesModel" ⟨"WaitingWritesModel", "poll", "(I)I"⟩ ⟨"WaitingWritesModel", "poll", "(I)I"⟩ ∈ gw := g4 (i := 2) rfl rfl
theorem wd64 : Cond.methodLink "WaitingWritesLaw" 53 ⟨"WaitingWrites", "issue", "(I)I"⟩ ∈ gw := g2 (i := 120) rfl rfl
theorem wd65 : Cond.instanceMethod ⟨"WaitingWrites", "issue", "(I)I"⟩ ∈ gw := g2 (i := 121) rfl rfl
theorem wd66 : Cond.selects "WaitingWrites" ⟨"WaitingWrites", "issue", "(I)I"⟩ ⟨"WaitingWrites", "issue", "(I)I"⟩ ∈ gw := g2 (i := 122) rfl rfl
theorem wd67 : Cond.methodLink "WaitingWritesLaw" 56 ⟨"WaitingWritesModel", "issue", "(I)I"⟩ ∈ gw := g4 (i := 8) rfl rfl
theorem wd68 : Cond.instanceMethod ⟨"WaitingWritesModel", "issue", "(I)I"⟩ ∈ gw := g4 (i := 9) rfl rfl
theorem wd69 : Cond.selects "WaitingWritesModel" ⟨"WaitingWritesModel", "issue", "(I)I"⟩ ⟨"WaitingWritesModel", "issue", "(I)I"⟩ ∈ gw := g4 (i := 10) rfl rfl
theorem wd70 : Cond.methodLink "WaitingWritesLaw" 57 ⟨"WaitingWrites", "settle", "(I)I"⟩ ∈ gw := g2 (i := 158) rfl rfl
theorem wd71 : Cond.instanceMethod ⟨"WaitingWrites", "settle", "(I)I"⟩ ∈ gw := g2 (i := 159) rfl rfl
theorem wd72 : Cond.selects "WaitingWrites" ⟨"WaitingWrites", "settle", "(I)I"⟩ ⟨"WaitingWrites", "settle", "(I)I"⟩ ∈ gw := g2 (i := 160) rfl rfl
theorem wd73 : Cond.methodLink "WaitingWritesLaw" 60 ⟨"WaitingWritesModel", "settle", "(I)I"⟩ ∈ gw := g4 (i := 24) rfl rfl
theorem wd74 : Cond.instanceMethod ⟨"WaitingWritesModel", "settle", "(I)I"⟩ ∈ gw := g4 (i := 25) rfl rfl
theorem wd75 : Cond.selects "WaitingWritesModel" ⟨"WaitingWritesModel", "settle", "(I)I"⟩ ⟨"WaitingWritesModel", "settle", "(I)I"⟩ ∈ gw := g4 (i := 26) rfl rfl
theorem wd76 : Cond.methodLink "WaitingWritesLaw" 61 ⟨"WaitingWrites", "crash", "()I"⟩ ∈ gw := g2 (i := 162) rfl rfl
theorem wd77 : Cond.instanceMethod ⟨"WaitingWrites", "crash", "()I"⟩ ∈ gw := g2 (i := 163) rfl rfl
theorem wd78 : Cond.selects "WaitingWrites" ⟨"WaitingWrites", "crash", "()I"⟩ ⟨"WaitingWrites", "crash", "()I"⟩ ∈ gw := g2 (i := 164) rfl rfl
theorem wd79 : Cond.methodLink "WaitingWritesLaw" 64 ⟨"WaitingWritesModel", "crash", "()I"⟩ ∈ gw := g4 (i := 28) rfl rfl
theorem wd80 : Cond.instanceMethod ⟨"WaitingWritesModel", "crash", "()I"⟩ ∈ gw := g4 (i := 29) rfl rfl
theorem wd81 : Cond.selects "WaitingWritesModel" ⟨"WaitingWritesModel", "crash", "()I"⟩ ⟨"WaitingWritesModel", "crash", "()I"⟩ ∈ gw := g4 (i := 30) rfl rfl
theorem wd82 : Cond.methodLink "WaitingWritesLaw" 65 ⟨"WaitingWrites", "recover", "()I"⟩ ∈ gw := g2 (i := 174) rfl rfl
theorem wd83 : Cond.instanceMethod ⟨"WaitingWrites", "recover", "()I"⟩ ∈ gw := g2 (i := 175) rfl rfl
theorem wd84 : Cond.selects "WaitingWrites" ⟨"WaitingWrites", "recover", "()I"⟩ ⟨"WaitingWrites", "recover", "()I"⟩ ∈ gw := g2 (i := 176) rfl rfl
theorem wd85 : Cond.methodLink "WaitingWritesLaw" 68 ⟨"WaitingWritesModel", "recover", "()I"⟩ ∈ gw := g4 (i := 32) rfl rfl
theorem wd86 : Cond.instanceMethod ⟨"WaitingWritesModel", "recover", "()I"⟩ ∈ gw := g4 (i := 33) rfl rfl
theorem wd87 : Cond.selects "WaitingWritesModel" ⟨"WaitingWritesModel", "recover", "()I"⟩ ⟨"WaitingWritesModel", "recover", "()I"⟩ ∈ gw := g4 (i := 34) rfl rfl
theorem wd88 : Cond.methodLink "WaitingWritesLaw" 69 ⟨"WaitingWrites", "about", "(I)I"⟩ ∈ gw := g2 (i := 178) rfl rfl
theorem wd89 : Cond.instanceMethod ⟨"WaitingWrites", "about", "(I)I"⟩ ∈ gw := g2 (i := 179) rfl rfl
theorem wd90 : Cond.selects "WaitingWrites" ⟨"WaitingWrites", "about", "(I)I"⟩ ⟨"WaitingWrites", "about", "(I)I"⟩ ∈ gw := g2 (i := 180) rfl rfl
theorem wd91 : Cond.methodLink "WaitingWritesLaw" 72 ⟨"WaitingWritesModel", "about", "(I)I"⟩ ∈ gw := g4 (i := 36) rfl rfl
theorem wd92 : Cond.instanceMethod ⟨"WaitingWritesModel", "about", "(I)I"⟩ ∈ gw := g4 (i := 37) rfl rfl
theorem wd93 : Cond.selects "WaitingWritesModel" ⟨"WaitingWritesModel", "about", "(I)I"⟩ ⟨"WaitingWritesModel", "about", "(I)I"⟩ ∈ gw := g4 (i := 38) rfl rfl
theorem wd94 : Cond.methodLink "WaitingWritesLaw" 73 ⟨"WaitingWrites", "waiting", "(II)I"⟩ ∈ gw := g2 (i := 194) rfl rfl
theorem wd95 : Cond.instanceMethod ⟨"WaitingWrites", "waiting", "(II)I"⟩ ∈ gw := g2 (i := 195) rfl rfl
theorem wd96 : Cond.selects "WaitingWrites" ⟨"WaitingWrites", "waiting", "(II)I"⟩ ⟨"WaitingWrites", "waiting", "(II)I"⟩ ∈ gw := g2 (i := 196) rfl rfl
theorem wd97 : Cond.methodLink "WaitingWritesLaw" 76 ⟨"WaitingWritesModel", "waiting", "(II)I"⟩ ∈ gw := g4 (i := 40) rfl rfl
theorem wd98 : Cond.instanceMethod ⟨"WaitingWritesModel", "waiting", "(II)I"⟩ ∈ gw := g4 (i := 41) rfl rfl
theorem wd99 : Cond.selects "WaitingWritesModel" ⟨"WaitingWritesModel", "waiting", "(II)I"⟩ ⟨"WaitingWritesModel", "waiting", "(II)I"⟩ ∈ gw := g4 (i := 42) rfl rfl
theorem wd100 : Cond.methodLink "WaitingWritesLaw" 77 ⟨"WaitingWrites", "extent", "(II)I"⟩ ∈ gw := g2 (i := 199) rfl rfl
theorem wd101 : Cond.instanceMethod ⟨"WaitingWrites", "extent", "(II)I"⟩ ∈ gw := g2 (i := 200) rfl rfl
theorem wd102 : Cond.selects "WaitingWrites" ⟨"WaitingWrites", "extent", "(II)I"⟩ ⟨"WaitingWrites", "extent", "(II)I"⟩ ∈ gw := g2 (i := 201) rfl rfl
theorem wd103 : Cond.methodLink "WaitingWritesLaw" 80 ⟨"WaitingWritesModel", "extent", "(II)I"⟩ ∈ gw := g4 (i := 44) rfl rfl
theorem wd104 : Cond.instanceMethod ⟨"WaitingWritesModel", "extent", "(II)I"⟩ ∈ gw := g4 (i := 45) rfl rfl
theorem wd105 : Cond.selects "WaitingWritesModel" ⟨"WaitingWritesModel", "extent", "(II)I"⟩ ⟨"WaitingWritesModel", "extent", "(II)I"⟩ ∈ gw := g4 (i := 46) rfl rfl
theorem wd106 : Cond.methodLink "WaitingWritesLaw" 81 ⟨"WaitingWrites", "disk", "(III)I"⟩ ∈ gw := g2 (i := 208) rfl rfl
theorem wd107 : Cond.instanceMethod ⟨"WaitingWrites", "disk", "(III)I"⟩ ∈ gw := g2 (i := 209) rfl rfl
theorem wd108 : Cond.selects "WaitingWrites" ⟨"WaitingWrites", "disk", "(III)I"⟩ ⟨"WaitingWrites", "disk", "(III)I"⟩ ∈ gw := g2 (i := 210) rfl rfl
theorem wd109 : Cond.methodLink "WaitingWritesLaw" 85 ⟨"WaitingWritesModel", "disk", "(III)I"⟩ ∈ gw := g4 (i := 48) rfl rfl
theorem wd110 : Cond.instanceMethod ⟨"WaitingWritesModel", "disk", "(III)I"⟩ ∈ gw := g4 (i := 49) rfl rfl
theorem wd111 : Cond.selects "WaitingWritesModel" ⟨"WaitingWritesModel", "disk", "(III)I"⟩ ⟨"WaitingWritesModel", "disk", "(III)I"⟩ ∈ gw := g4 (i := 50) rfl rfl
theorem wd112 : Cond.methodLink "WaitingWritesLaw" 86 ⟨"WaitingWrites", "record", "(II)I"⟩ ∈ gw := g2 (i := 212) rfl rfl
theorem wd113 : Cond.instanceMethod ⟨"WaitingWrites", "record", "(II)I"⟩ ∈ gw := g2 (i := 213) rfl rfl
theorem wd114 : Cond.selects "WaitingWrites" ⟨"WaitingWrites", "record", "(II)I"⟩ ⟨"WaitingWrites", "record", "(II)I"⟩ ∈ gw := g2 (i := 214) rfl rfl
theorem wd115 : Cond.methodLink "WaitingWritesLaw" 89 ⟨"WaitingWritesModel", "record", "(II)I"⟩ ∈ gw := g4 (i := 52) rfl rfl
theorem wd116 : Cond.instanceMethod ⟨"WaitingWritesModel", "record", "(II)I"⟩ ∈ gw := g4 (i := 53) rfl rfl
theorem wd117 : Cond.selects "WaitingWritesModel" ⟨"WaitingWritesModel", "record", "(II)I"⟩ ⟨"WaitingWritesModel", "record", "(II)I"⟩ ∈ gw := g4 (i := 54) rfl rfl
theorem wd118 : Cond.methodLink "WaitingWrites" 1 ⟨"java/lang/Object", "<init>", "()V"⟩ ∈ gw := g0 (i := 20) rfl rfl
theorem wd119 : Cond.instanceMethod ⟨"java/lang/Object", "<init>", "()V"⟩ ∈ gw := g0 (i := 21) rfl rfl
theorem wd120 : Cond.classLink "WaitingWrites" 7 "WaitingWrites$Disk" ∈ gw := g0 (i := 23) rfl rfl
theorem wd121 : Cond.instantiable "WaitingWrites$Disk" 2 ∈ gw := g0 (i := 24) rfl rfl
theorem wd122 : Cond.initialized "WaitingWrites$Disk" ∈ gw := g0 (i := 2) rfl rfl
theorem wd123 : Cond.methodLink "WaitingWrites" 9 ⟨"WaitingWrites$Disk", "<init>", "()V"⟩ ∈ gw := g0 (i := 25) rfl rfl
theorem wd124 : Cond.instanceMethod ⟨"WaitingWrites$Disk", "<init>", "()V"⟩ ∈ gw := g0 (i := 26) rfl rfl
theorem wd125 : Cond.fieldLink "WaitingWrites" 10 "WaitingWrites" "platter" "LWaitingWrites$Disk;" ∈ gw := g1 (i := 73) rfl rfl
theorem wd126 : Cond.classLink "WaitingWrites" 16 "WaitingWrites$Queue" ∈ gw := g0 (i := 64) rfl rfl
theorem wd127 : Cond.instantiable "WaitingWrites$Queue" 3 ∈ gw := g0 (i := 65) rfl rfl
theorem wd128 : Cond.initialized "WaitingWrites$Queue" ∈ gw := g0 (i := 4) rfl rfl
theorem wd129 : Cond.methodLink "WaitingWrites" 18 ⟨"WaitingWrites$Queue", "<init>", "()V"⟩ ∈ gw := g0 (i := 66) rfl rfl
theorem wd130 : Cond.instanceMethod ⟨"WaitingWrites$Queue", "<init>", "()V"⟩ ∈ gw := g0 (i := 67) rfl rfl
theorem wd131 : Cond.fieldLink "WaitingWrites" 19 "WaitingWrites" "queue" "LWaitingWrites$Queue;" ∈ gw := g1 (i := 74) rfl rfl
theorem wd132 : Cond.classLink "WaitingWrites" 23 "WaitingWrites$Cache" ∈ gw := g0 (i := 117) rfl rfl
theorem wd133 : Cond.instantiable "WaitingWrites$Cache" 3 ∈ gw := g0 (i := 118) rfl rfl
theorem wd134 : Cond.initialized "WaitingWrites$Cache" ∈ gw := g0 (i := 6) rfl rfl
theorem wd135 : Cond.instanceMethod ⟨"WaitingWrites$Cache", "<init>", "()V"⟩ ∈ gw := g0 (i := 120) rfl rfl
theorem wd136 : Cond.fieldLink "WaitingWrites" 26 "WaitingWrites" "cache" "LWaitingWrites$Cache;" ∈ gw := g1 (i := 75) rfl rfl
theorem wd137 : Cond.classLink "WaitingWrites" 30 "WaitingWrites$Layout" ∈ gw := g0 (i := 134) rfl rfl
theorem wd138 : Cond.instantiable "WaitingWrites$Layout" 2 ∈ gw := g0 (i := 135) rfl rfl
theorem wd139 : Cond.initialized "WaitingWrites$Layout" ∈ gw := g0 (i := 7) rfl rfl
theorem wd140 : Cond.instanceMethod ⟨"WaitingWrites$Layout", "<init>", "()V"⟩ ∈ gw := g0 (i := 137) rfl rfl
theorem wd141 : Cond.fieldLink "WaitingWrites" 33 "WaitingWrites" "layout" "LWaitingWrites$Layout;" ∈ gw := g1 (i := 76) rfl rfl
theorem wd142 : Cond.fieldLink "WaitingWrites" 37 "WaitingWrites" "trial" "LWaitingWrites$Layout;" ∈ gw := g1 (i := 77) rfl rfl
theorem wd143 : Cond.classLink "WaitingWrites" 40 "WaitingWrites$Index" ∈ gw := g0 (i := 149) rfl rfl
theorem wd144 : Cond.instantiable "WaitingWrites$Index" 4 ∈ gw := g0 (i := 150) rfl rfl
theorem wd145 : Cond.initialized "WaitingWrites$Index" ∈ gw := g0 (i := 8) rfl rfl
theorem wd146 : Cond.methodLink "WaitingWrites" 42 ⟨"WaitingWrites$Index", "<init>", "()V"⟩ ∈ gw := g0 (i := 151) rfl rfl
theorem wd147 : Cond.instanceMethod ⟨"WaitingWrites$Index", "<init>", "()V"⟩ ∈ gw := g0 (i := 152) rfl rfl
theorem wd148 : Cond.fieldLink "WaitingWrites" 43 "WaitingWrites" "index" "LWaitingWrites$Index;" ∈ gw := g1 (i := 78) rfl rfl
theorem wd149 : Cond.classLink "WaitingWrites" 47 "WaitingWrites$Bytes" ∈ gw := g0 (i := 197) rfl rfl
theorem wd150 : Cond.instantiable "WaitingWrites$Bytes" 2 ∈ gw := g0 (i := 198) rfl rfl
theorem wd151 : Cond.initialized "WaitingWrites$Bytes" ∈ gw := g0 (i := 11) rfl rfl
theorem wd152 : Cond.methodLink "WaitingWrites" 49 ⟨"WaitingWrites$Bytes", "<init>", "(I)V"⟩ ∈ gw := g0 (i := 199) rfl rfl
theorem wd153 : Cond.instanceMethod ⟨"WaitingWrites$Bytes", "<init>", "(I)V"⟩ ∈ gw := g0 (i := 200) rfl rfl
theorem wd154 : Cond.fieldLink "WaitingWrites" 52 "WaitingWrites" "tape" "LWaitingWrites$Bytes;" ∈ gw := g1 (i := 79) rfl rfl
theorem wd155 : Cond.fieldLink "WaitingWrites" 56 "WaitingWrites" "output" "LWaitingWrites$Bytes;" ∈ gw := g1 (i := 80) rfl rfl
theorem wd156 : Cond.fieldLink "WaitingWrites" 59 "WaitingWrites" "body" "LWaitingWrites$Bytes;" ∈ gw := g1 (i := 81) rfl rfl
theorem wd157 : Cond.fieldLink "WaitingWrites" 62 "WaitingWrites" "chunk" "LWaitingWrites$Bytes;" ∈ gw := g1 (i := 82) rfl rfl
theorem wd158 : Cond.arrayClass Jvm.ClassFile.FieldType.boolean ∈ gw := g1 (i := 131) rfl rfl
theorem wd159 : Cond.fieldLink "WaitingWrites" 65 "WaitingWrites" "marked" "[Z" ∈ gw := g1 (i := 83) rfl rfl
theorem wd160 : Cond.arrayClass Jvm.ClassFile.FieldType.int ∈ gw := g0 (i := 56) rfl rfl
theorem wd161 : Cond.fieldLink "WaitingWrites" 69 "WaitingWrites" "movers" "[I" ∈ gw := g1 (i := 84) rfl rfl
theorem wd162 : Cond.fieldLink "WaitingWrites" 73 "WaitingWrites" "emptiers" "[I" ∈ gw := g1 (i := 85) rfl rfl
theorem wd163 : Cond.fieldLink "WaitingWrites" 76 "WaitingWrites" "lost" "[Z" ∈ gw := g1 (i := 86) rfl rfl
theorem wd164 : Cond.methodLink "WaitingWrites" 79 ⟨"WaitingWrites", "restart", "()V"⟩ ∈ gw := g0 (i := 214) rfl rfl
theorem wd165 : Cond.instanceMethod ⟨"WaitingWrites", "restart", "()V"⟩ ∈ gw := g0 (i := 216) rfl rfl
theorem wd166 : Cond.selects "WaitingWrites" ⟨"WaitingWrites", "restart", "()V"⟩ ⟨"WaitingWrites", "restart", "()V"⟩ ∈ gw := gs (i := 0) rfl rfl
theorem wd167 : Cond.methodLink "WaitingWrites$Disk" 3 ⟨"java/lang/Object", "<init>", "()V"⟩ ∈ gw := g0 (i := 28) rfl rfl
theorem wd168 : Cond.fieldLink "WaitingWrites$Disk" 9 "WaitingWrites$Disk" "cells" "[I" ∈ gw := g0 (i := 57) rfl rfl
theorem wd169 : Cond.classLink "WaitingWrites$Disk" 15 "WaitingWrites$Rec" ∈ gw := g0 (i := 29) rfl rfl
theorem wd170 : Cond.fieldLink "WaitingWrites$Disk" 17 "WaitingWrites$Disk" "slots" "[LWaitingWrites$Rec;" ∈ gw := g0 (i := 58) rfl rfl
theorem wd171 : Cond.instantiable "WaitingWrites$Rec" 5 ∈ gw := g0 (i := 31) rfl rfl
theorem wd172 : Cond.initialized "WaitingWrites$Rec" ∈ gw := g0 (i := 3) rfl rfl
theorem wd173 : Cond.methodLink "WaitingWrites$Disk" 21 ⟨"WaitingWrites$Rec", "<init>", "(III[I[I)V"⟩ ∈ gw := g0 (i := 32) rfl rfl
theorem wd174 : Cond.instanceMethod ⟨"WaitingWrites$Rec", "<init>", "(III[I[I)V"⟩ ∈ gw := g0 (i := 33) rfl rfl
theorem wd175 : Cond.methodLink "WaitingWrites$Rec" 3 ⟨"java/lang/Object", "<init>", "()V"⟩ ∈ gw := g0 (i := 35) rfl rfl
theorem wd176 : Cond.fieldLink "WaitingWrites$Rec" 9 "WaitingWrites$Rec" "number" "I" ∈ gw := g0 (i := 36) rfl rfl
theorem wd177 : Cond.fieldLink "WaitingWrites$Rec" 15 "WaitingWrites$Rec" "upto" "I" ∈ gw := g0 (i := 39) rfl rfl
theorem wd178 : Cond.fieldLink "WaitingWrites$Rec" 18 "WaitingWrites$Rec" "stamps" "I" ∈ gw := g0 (i := 41) rfl rfl
theorem wd179 : Cond.fieldLink "WaitingWrites$Rec" 21 "WaitingWrites$Rec" "pointers" "[I" ∈ gw := g0 (i := 43) rfl rfl
theorem wd180 : Cond.fieldLink "WaitingWrites$Rec" 25 "WaitingWrites$Rec" "tables" "[I" ∈ gw := g0 (i := 44) rfl rfl
theorem wd181 : Cond.methodLink "WaitingWrites$Queue" 3 ⟨"java/lang/Object", "<init>", "()V"⟩ ∈ gw := g0 (i := 69) rfl rfl
theorem wd182 : Cond.classLink "WaitingWrites$Queue" 9 "WaitingWrites$Write" ∈ gw := g0 (i := 70) rfl rfl
theorem wd183 : Cond.fieldLink "WaitingWrites$Queue" 11 "WaitingWrites$Queue" "row" "[LWaitingWrites$Write;" ∈ gw := g0 (i := 106) rfl rfl
theorem wd184 : Cond.instantiable "WaitingWrites$Write" 7 ∈ gw := g0 (i := 72) rfl rfl
theorem wd185 : Cond.initialized "WaitingWrites$Write" ∈ gw := g0 (i := 5) rfl rfl
theorem wd186 : Cond.methodLink "WaitingWrites$Queue" 17 ⟨"WaitingWrites$Write", "<init>", "(I)V"⟩ ∈ gw := g0 (i := 73) rfl rfl
theorem wd187 : Cond.instanceMethod ⟨"WaitingWrites$Write", "<init>", "(I)V"⟩ ∈ gw := g0 (i := 74) rfl rfl
theorem wd188 : Cond.methodLink "WaitingWrites$Write" 3 ⟨"java/lang/Object", "<init>", "()V"⟩ ∈ gw := g0 (i := 76) rfl rfl
theorem wd189 : Cond.fieldLink "WaitingWrites$Write" 9 "WaitingWrites$Write" "bytes" "[I" ∈ gw := g0 (i := 78) rfl rfl
theorem wd190 : Cond.fieldLink "WaitingWrites$Write" 15 "WaitingWrites$Write" "seat" "I" ∈ gw := g0 (i := 77) rfl rfl
theorem wd191 : Cond.methodLink "WaitingWrites$Cache" 3 ⟨"java/lang/Object", "<init>", "()V"⟩ ∈ gw := g0 (i := 122) rfl rfl
theorem wd192 : Cond.fieldLink "WaitingWrites$Cache" 9 "WaitingWrites$Cache" "blocks" "[I" ∈ gw := g0 (i := 123) rfl rfl
theorem wd193 : Cond.methodLink "WaitingWrites$Layout" 3 ⟨"java/lang/Object", "<init>", "()V"⟩ ∈ gw := g0 (i := 139) rfl rfl
theorem wd194 : Cond.fieldLink "WaitingWrites$Layout" 9 "WaitingWrites$Layout" "pointers" "[I" ∈ gw := g0 (i := 140) rfl rfl
theorem wd195 : Cond.fieldLink "WaitingWrites$Layout" 15 "WaitingWrites$Layout" "open" "I" ∈ gw := g0 (i := 142) rfl rfl
theorem wd196 : Cond.methodLink "WaitingWrites$Index" 3 ⟨"java/lang/Object", "<init>", "()V"⟩ ∈ gw := g0 (i := 154) rfl rfl
theorem wd197 : Cond.classLink "WaitingWrites$Index" 9 "WaitingWrites$Entries" ∈ gw := g0 (i := 155) rfl rfl
theorem wd198 : Cond.instantiable "WaitingWrites$Entries" 3 ∈ gw := g0 (i := 156) rfl rfl
theorem wd199 : Cond.initialized "WaitingWrites$Entries" ∈ gw := g0 (i := 9) rfl rfl
theorem wd200 : Cond.methodLink "WaitingWrites$Index" 11 ⟨"WaitingWrites$Entries", "<init>", "()V"⟩ ∈ gw := g0 (i := 157) rfl rfl
theorem wd201 : Cond.instanceMethod ⟨"WaitingWrites$Entries", "<init>", "()V"⟩ ∈ gw := g0 (i := 158) rfl rfl
theorem wd202 : Cond.fieldLink "WaitingWrites$Index" 12 "WaitingWrites$Index" "changes" "LWaitingWrites$Entries;" ∈ gw := g0 (i := 181) rfl rfl
theorem wd203 : Cond.fieldLink "WaitingWrites$Index" 18 "WaitingWrites$Index" "tables" "[LWaitingWrites$Entries;" ∈ gw := g0 (i := 183) rfl rfl
theorem wd204 : Cond.fieldLink "WaitingWrites$Index" 22 "WaitingWrites$Index" "fresh" "LWaitingWrites$Entries;" ∈ gw := g0 (i := 186) rfl rfl
theorem wd205 : Cond.methodLink "WaitingWrites$Entries" 3 ⟨"java/lang/Object", "<init>", "()V"⟩ ∈ gw := g0 (i := 160) rfl rfl
theorem wd206 : Cond.fieldLink "WaitingWrites$Entries" 9 "WaitingWrites$Entries" "spots" "[I" ∈ gw := g0 (i := 168) rfl rfl
theorem wd207 : Cond.fieldLink "WaitingWrites$Entries" 15 "WaitingWrites$Entries" "place" "I" ∈ gw := g0 (i := 171) rfl rfl
theorem wd208 : Cond.methodLink "WaitingWrites$Entries" 19 ⟨"WaitingWrites$Entries", "clear", "()V"⟩ ∈ gw := g0 (i := 161) rfl rfl
theorem wd209 : Cond.instanceMethod ⟨"WaitingWrites$Entries", "clear", "()V"⟩ ∈ gw := g0 (i := 162) rfl rfl
theorem wd210 : Cond.selects "WaitingWrites$Entries" ⟨"WaitingWrites$Entries", "clear", "()V"⟩ ⟨"WaitingWrites$Entries", "clear", "()V"⟩ ∈ gw := g0 (i := 163) rfl rfl
theorem wd211 : Cond.methodLink "WaitingWrites$Entries" 22 ⟨"java/util/Arrays", "fill", "([II)V"⟩ ∈ gw := g0 (i := 165) rfl rfl
theorem wd212 : Cond.static ⟨"java/util/Arrays", "fill", "([II)V"⟩ ∈ gw := g0 (i := 166) rfl rfl
theorem wd213 : Cond.fieldLink "WaitingWrites$Entries" 28 "WaitingWrites$Entries" "count" "I" ∈ gw := g0 (i := 169) rfl rfl
theorem wd214 : Cond.methodLink "WaitingWrites$Bytes" 3 ⟨"java/lang/Object", "<init>", "()V"⟩ ∈ gw := g0 (i := 202) rfl rfl
theorem wd215 : Cond.methodLink "WaitingWrites$Bytes" 9 ⟨"java/lang/Math", "max", "(II)I"⟩ ∈ gw := g0 (i := 203) rfl rfl
theorem wd216 : Cond.static ⟨"java/lang/Math", "max", "(II)I"⟩ ∈ gw := g0 (i := 204) rfl rfl
theorem wd217 : Cond.initialized "java/lang/Math" ∈ gw := g0 (i := 12) rfl rfl
theorem wd218 : Cond.fieldLink "WaitingWrites$Bytes" 15 "WaitingWrites$Bytes" "cells" "[I" ∈ gw := g0 (i := 206) rfl rfl
theorem wd219 : Cond.methodLink "WaitingWrites" 193 ⟨"WaitingWrites$Disk", "latest", "()LWaitingWrites$Rec;"⟩ ∈ gw := g0 (i := 218) rfl rfl
theorem wd220 : Cond.instanceMethod ⟨"WaitingWrites$Disk", "latest", "()LWaitingWrites$Rec;"⟩ ∈ gw := g0 (i := 219) rfl rfl
theorem wd221 : Cond.selects "WaitingWrites$Disk" ⟨"WaitingWrites$Disk", "latest", "()LWaitingWrites$Rec;"⟩ ⟨"WaitingWrites$Disk", "latest", "()LWaitingWrites$Rec;"⟩ ∈ gw := g0 (i := 220) rfl rfl
theorem wd222 : Cond.fieldLink "WaitingWrites" 251 "WaitingWrites" "latest" "LWaitingWrites$Rec;" ∈ gw := g1 (i := 87) rfl rfl
theorem wd223 : Cond.fieldLink "WaitingWrites" 190 "WaitingWrites" "latestWrite" "I" ∈ gw := g1 (i := 88) rfl rfl
theorem wd224 : Cond.fieldLink "WaitingWrites" 254 "WaitingWrites$Rec" "stamps" "I" ∈ gw := g0 (i := 42) rfl rfl
theorem wd225 : Cond.fieldLink "WaitingWrites" 257 "WaitingWrites" "stamps" "I" ∈ gw := g1 (i := 89) rfl rfl
theorem wd226 : Cond.methodLink "WaitingWrites" 258 ⟨"WaitingWrites$Layout", "restore", "(LWaitingWrites$Rec;)V"⟩ ∈ gw := g0 (i := 222) rfl rfl
theorem wd227 : Cond.instanceMethod ⟨"WaitingWrites$Layout", "restore", "(LWaitingWrites$Rec;)V"⟩ ∈ gw := g0 (i := 223) rfl rfl
theorem wd228 : Cond.selects "WaitingWrites$Layout" ⟨"WaitingWrites$Layout", "restore", "(LWaitingWrites$Rec;)V"⟩ ⟨"WaitingWrites$Layout", "restore", "(LWaitingWrites$Rec;)V"⟩ ∈ gw := g0 (i := 224) rfl rfl
theorem wd229 : Cond.methodLink "WaitingWrites" 262 ⟨"java/util/Arrays", "fill", "([II)V"⟩ ∈ gw := g0 (i := 230) rfl rfl
theorem wd230 : Cond.methodLink "WaitingWrites" 268 ⟨"WaitingWrites$Index", "clear", "()V"⟩ ∈ gw := g0 (i := 231) rfl rfl
theorem wd231 : Cond.instanceMethod ⟨"WaitingWrites$Index", "clear", "()V"⟩ ∈ gw := g0 (i := 232) rfl rfl
theorem wd232 : Cond.selects "WaitingWrites$Index" ⟨"WaitingWrites$Index", "clear", "()V"⟩ ⟨"WaitingWrites$Index", "clear", "()V"⟩ ∈ gw := g0 (i := 233) rfl rfl
theorem wd233 : Cond.methodLink "WaitingWrites" 269 ⟨"WaitingWrites$Rec", "tableCount", "()I"⟩ ∈ gw := g0 (i := 236) rfl rfl
theorem wd234 : Cond.instanceMethod ⟨"WaitingWrites$Rec", "tableCount", "()I"⟩ ∈ gw := g0 (i := 237) rfl rfl
theorem wd235 : Cond.selects "WaitingWrites$Rec" ⟨"WaitingWrites$Rec", "tableCount", "()I"⟩ ⟨"WaitingWrites$Rec", "tableCount", "()I"⟩ ∈ gw := g0 (i := 238) rfl rfl
theorem wd236 : Cond.methodLink "WaitingWrites" 272 ⟨"WaitingWrites$Rec", "tableAt", "(I)I"⟩ ∈ gw := g1 (i := 0) rfl rfl
theorem wd237 : Cond.instanceMethod ⟨"WaitingWrites$Rec", "tableAt", "(I)I"⟩ ∈ gw := g1 (i := 1) rfl rfl
theorem wd238 : Cond.selects "WaitingWrites$Rec" ⟨"WaitingWrites$Rec", "tableAt", "(I)I"⟩ ⟨"WaitingWrites$Rec", "tableAt", "(I)I"⟩ ∈ gw := g1 (i := 2) rfl rfl
theorem wd239 : Cond.methodLink "WaitingWrites" 139 ⟨"WaitingWrites", "useChunk", "(I)V"⟩ ∈ gw := g1 (i := 4) rfl rfl
theorem wd240 : Cond.instanceMethod ⟨"WaitingWrites", "useChunk", "(I)V"⟩ ∈ gw := g1 (i := 6) rfl rfl
theorem wd241 : Cond.selects "WaitingWrites" ⟨"WaitingWrites", "useChunk", "(I)V"⟩ ⟨"WaitingWrites", "useChunk", "(I)V"⟩ ∈ gw := gs (i := 1) rfl rfl
theorem wd242 : Cond.methodLink "WaitingWrites" 142 ⟨"WaitingWrites", "fetchChunk", "(ILWaitingWrites$Bytes;)V"⟩ ∈ gw := g1 (i := 36) rfl rfl
theorem wd243 : Cond.instanceMethod ⟨"WaitingWrites", "fetchChunk", "(ILWaitingWrites$Bytes;)V"⟩ ∈ gw := g1 (i := 38) rfl rfl
theorem wd244 : Cond.selects "WaitingWrites" ⟨"WaitingWrites", "fetchChunk", "(ILWaitingWrites$Bytes;)V"⟩ ⟨"WaitingWrites", "fetchChunk", "(ILWaitingWrites$Bytes;)V"⟩ ∈ gw := gs (i := 4) rfl rfl
theorem wd245 : Cond.methodLink "WaitingWrites" 275 ⟨"WaitingWrites$Index", "addOlder", "(LWaitingWrites$Bytes;I)V"⟩ ∈ gw := g1 (i := 48) rfl rfl
theorem wd246 : Cond.instanceMethod ⟨"WaitingWrites$Index", "addOlder", "(LWaitingWrites$Bytes;I)V"⟩ ∈ gw := g1 (i := 49) rfl rfl
theorem wd247 : Cond.selects "WaitingWrites$Index" ⟨"WaitingWrites$Index", "addOlder", "(LWaitingWrites$Bytes;I)V"⟩ ⟨"WaitingWrites$Index", "addOlder", "(LWaitingWrites$Bytes;I)V"⟩ ∈ gw := g1 (i := 50) rfl rfl
theorem wd248 : Cond.fieldLink "WaitingWrites" 89 "WaitingWrites" "off" "Z" ∈ gw := g1 (i := 91) rfl rfl
theorem wd249 : Cond.fieldLink "WaitingWrites$Disk" 24 "WaitingWrites$Rec" "number" "I" ∈ gw := g0 (i := 37) rfl rfl
theorem wd250 : Cond.methodLink "WaitingWrites$Layout" 19 ⟨"WaitingWrites$Rec", "pointerOf", "(I)I"⟩ ∈ gw := g0 (i := 226) rfl rfl
theorem wd251 : Cond.instanceMethod ⟨"WaitingWrites$Rec", "pointerOf", "(I)I"⟩ ∈ gw := g0 (i := 227) rfl rfl
theorem wd252 : Cond.selects "WaitingWrites$Rec" ⟨"WaitingWrites$Rec", "pointerOf", "(I)I"⟩ ⟨"WaitingWrites$Rec", "pointerOf", "(I)I"⟩ ∈ gw := g0 (i := 228) rfl rfl
theorem wd253 : Cond.methodLink "WaitingWrites$Index" 25 ⟨"WaitingWrites$Entries", "clear", "()V"⟩ ∈ gw := g0 (i := 235) rfl rfl
theorem wd254 : Cond.fieldLink "WaitingWrites$Index" 28 "WaitingWrites$Index" "count" "I" ∈ gw := g0 (i := 184) rfl rfl
theorem wd255 : Cond.methodLink "WaitingWrites" 285 ⟨"WaitingWrites", "blocksAt", "(I)I"⟩ ∈ gw := g1 (i := 8) rfl rfl
theorem wd256 : Cond.instanceMethod ⟨"WaitingWrites", "blocksAt", "(I)I"⟩ ∈ gw := g1 (i := 10) rfl rfl
theorem wd257 : Cond.selects "WaitingWrites" ⟨"WaitingWrites", "blocksAt", "(I)I"⟩ ⟨"WaitingWrites", "blocksAt", "(I)I"⟩ ∈ gw := gs (i := 2) rfl rfl
theorem wd258 : Cond.methodLink "WaitingWrites" 278 ⟨"WaitingWrites$Queue", "latestOf", "(I)LWaitingWrites$Write;"⟩ ∈ gw := g1 (i := 16) rfl rfl
theorem wd259 : Cond.instanceMethod ⟨"WaitingWrites$Queue", "latestOf", "(I)LWaitingWrites$Write;"⟩ ∈ gw := g1 (i := 17) rfl rfl
theorem wd260 : Cond.selects "WaitingWrites$Queue" ⟨"WaitingWrites$Queue", "latestOf", "(I)LWaitingWrites$Write;"⟩ ⟨"WaitingWrites$Queue", "latestOf", "(I)LWaitingWrites$Write;"⟩ ∈ gw := g1 (i := 18) rfl rfl
theorem wd261 : Cond.methodLink "WaitingWrites" 288 ⟨"WaitingWrites$Cache", "use", "(I)V"⟩ ∈ gw := g1 (i := 32) rfl rfl
theorem wd262 : Cond.instanceMethod ⟨"WaitingWrites$Cache", "use", "(I)V"⟩ ∈ gw := g1 (i := 33) rfl rfl
theorem wd263 : Cond.selects "WaitingWrites$Cache" ⟨"WaitingWrites$Cache", "use", "(I)V"⟩ ⟨"WaitingWrites$Cache", "use", "(I)V"⟩ ∈ gw := g1 (i := 34) rfl rfl
theorem wd264 : Cond.methodLink "WaitingWrites" 282 ⟨"WaitingWrites", "lengthAt", "(I)I"⟩ ∈ gw := g1 (i := 12) rfl rfl
theorem wd265 : Cond.instanceMethod ⟨"WaitingWrites", "lengthAt", "(I)I"⟩ ∈ gw := g1 (i := 14) rfl rfl
theorem wd266 : Cond.selects "WaitingWrites" ⟨"WaitingWrites", "lengthAt", "(I)I"⟩ ⟨"WaitingWrites", "lengthAt", "(I)I"⟩ ∈ gw := gs (i := 3) rfl rfl
theorem wd267 : Cond.methodLink "WaitingWrites" 107 ⟨"WaitingWrites", "blocksFor", "(I)I"⟩ ∈ gw := g1 (i := 29) rfl rfl
theorem wd268 : Cond.static ⟨"WaitingWrites", "blocksFor", "(I)I"⟩ ∈ gw := g1 (i := 30) rfl rfl
theorem wd269 : Cond.methodLink "WaitingWrites" 281 ⟨"WaitingWrites$Write", "at", "(I)I"⟩ ∈ gw := g1 (i := 20) rfl rfl
theorem wd270 : Cond.instanceMethod ⟨"WaitingWrites$Write", "at", "(I)I"⟩ ∈ gw := g1 (i := 21) rfl rfl
theorem wd271 : Cond.selects "WaitingWrites$Write" ⟨"WaitingWrites$Write", "at", "(I)I"⟩ ⟨"WaitingWrites$Write", "at", "(I)I"⟩ ∈ gw := g1 (i := 22) rfl rfl
theorem wd272 : Cond.methodLink "WaitingWrites" 242 ⟨"WaitingWrites$Disk", "at", "(II)I"⟩ ∈ gw := g1 (i := 24) rfl rfl
theorem wd273 : Cond.instanceMethod ⟨"WaitingWrites$Disk", "at", "(II)I"⟩ ∈ gw := g1 (i := 25) rfl rfl
theorem wd274 : Cond.selects "WaitingWrites$Disk" ⟨"WaitingWrites$Disk", "at", "(II)I"⟩ ⟨"WaitingWrites$Disk", "at", "(II)I"⟩ ∈ gw := g1 (i := 26) rfl rfl
theorem wd275 : Cond.methodLink "WaitingWrites" 208 ⟨"java/lang/Math", "max", "(II)I"⟩ ∈ gw := g1 (i := 28) rfl rfl
theorem wd276 : Cond.fieldLink "WaitingWrites$Queue" 20 "WaitingWrites$Queue" "count" "I" ∈ gw := g0 (i := 107) rfl rfl
theorem wd277 : Cond.fieldLink "WaitingWrites$Queue" 34 "WaitingWrites$Write" "target" "I" ∈ gw := g0 (i := 84) rfl rfl
theorem wd278 : Cond.fieldLink "WaitingWrites$Cache" 15 "WaitingWrites$Cache" "count" "I" ∈ gw := g0 (i := 124) rfl rfl
theorem wd279 : Cond.fieldLink "WaitingWrites$Cache" 19 "WaitingWrites$Cache" "reads" "I" ∈ gw := g0 (i := 125) rfl rfl
theorem wd280 : Cond.methodLink "WaitingWrites" 100 ⟨"WaitingWrites$Bytes", "clear", "()V"⟩ ∈ gw := g1 (i := 40) rfl rfl
theorem wd281 : Cond.instanceMethod ⟨"WaitingWrites$Bytes", "clear", "()V"⟩ ∈ gw := g1 (i := 41) rfl rfl
theorem wd282 : Cond.selects "WaitingWrites$Bytes" ⟨"WaitingWrites$Bytes", "clear", "()V"⟩ ⟨"WaitingWrites$Bytes", "clear", "()V"⟩ ∈ gw := g1 (i := 42) rfl rfl
theorem wd283 : Cond.methodLink "WaitingWrites" 291 ⟨"WaitingWrites$Bytes", "add", "(I)V"⟩ ∈ gw := g1 (i := 44) rfl rfl
theorem wd284 : Cond.instanceMethod ⟨"WaitingWrites$Bytes", "add", "(I)V"⟩ ∈ gw := g1 (i := 45) rfl rfl
theorem wd285 : Cond.selects "WaitingWrites$Bytes" ⟨"WaitingWrites$Bytes", "add", "(I)V"⟩ ⟨"WaitingWrites$Bytes", "add", "(I)V"⟩ ∈ gw := g1 (i := 46) rfl rfl
theorem wd286 : Cond.fieldLink "WaitingWrites$Bytes" 21 "WaitingWrites$Bytes" "count" "I" ∈ gw := g0 (i := 208) rfl rfl
theorem wd287 : Cond.methodLink "WaitingWrites$Index" 55 ⟨"WaitingWrites$Entries", "readFrom", "(LWaitingWrites$Bytes;)V"⟩ ∈ gw := g1 (i := 52) rfl rfl
theorem wd288 : Cond.instanceMethod ⟨"WaitingWrites$Entries", "readFrom", "(LWaitingWrites$Bytes;)V"⟩ ∈ gw := g1 (i := 53) rfl rfl
theorem wd289 : Cond.selects "WaitingWrites$Entries" ⟨"WaitingWrites$Entries", "readFrom", "(LWaitingWrites$Bytes;)V"⟩ ⟨"WaitingWrites$Entries", "readFrom", "(LWaitingWrites$Bytes;)V"⟩ ∈ gw := g1 (i := 54) rfl rfl
theorem wd290 : Cond.fieldLink "WaitingWrites$Index" 32 "WaitingWrites$Entries" "place" "I" ∈ gw := g0 (i := 172) rfl rfl
theorem wd291 : Cond.methodLink "WaitingWrites$Entries" 42 ⟨"WaitingWrites$Bytes", "at", "(I)I"⟩ ∈ gw := g1 (i := 56) rfl rfl
theorem wd292 : Cond.instanceMethod ⟨"WaitingWrites$Bytes", "at", "(I)I"⟩ ∈ gw := g1 (i := 57) rfl rfl
theorem wd293 : Cond.selects "WaitingWrites$Bytes" ⟨"WaitingWrites$Bytes", "at", "(I)I"⟩ ⟨"WaitingWrites$Bytes", "at", "(I)I"⟩ ∈ gw := g1 (i := 58) rfl rfl
theorem wd294 : Cond.methodLink "WaitingWrites$Entries" 46 ⟨"java/lang/Math", "min", "(II)I"⟩ ∈ gw := g1 (i := 60) rfl rfl
theorem wd295 : Cond.static ⟨"java/lang/Math", "min", "(II)I"⟩ ∈ gw := g1 (i := 61) rfl rfl
theorem wd296 : Cond.methodLink "WaitingWrites$Entries" 52 ⟨"WaitingWrites$Entries", "set", "(II)V"⟩ ∈ gw := g1 (i := 63) rfl rfl
theorem wd297 : Cond.instanceMethod ⟨"WaitingWrites$Entries", "set", "(II)V"⟩ ∈ gw := g1 (i := 64) rfl rfl
theorem wd298 : Cond.selects "WaitingWrites$Entries" ⟨"WaitingWrites$Entries", "set", "(II)V"⟩ ⟨"WaitingWrites$Entries", "set", "(II)V"⟩ ∈ gw := g1 (i := 65) rfl rfl
theorem wd299 : Cond.static ⟨"WaitingWrites", "isExtent", "(I)Z"⟩ ∈ gw := g1 (i := 71) rfl rfl
theorem wd300 : Cond.static ⟨"WaitingWrites", "isKey", "(I)Z"⟩ ∈ gw := g1 (i := 68) rfl rfl
theorem wd301 : Cond.fieldLink "WaitingWrites" 82 "WaitingWrites$Bytes" "count" "I" ∈ gw := g0 (i := 207) rfl rfl
theorem wd302 : Cond.methodLink "WaitingWrites" 86 ⟨"WaitingWrites$Bytes", "addInt", "(I)V"⟩ ∈ gw := g1 (i := 136) rfl rfl
theorem wd303 : Cond.instanceMethod ⟨"WaitingWrites$Bytes", "addInt", "(I)V"⟩ ∈ gw := g1 (i := 137) rfl rfl
theorem wd304 : Cond.selects "WaitingWrites$Bytes" ⟨"WaitingWrites$Bytes", "addInt", "(I)V"⟩ ⟨"WaitingWrites$Bytes", "addInt", "(I)V"⟩ ∈ gw := g1 (i := 138) rfl rfl
theorem wd305 : Cond.methodLink "WaitingWrites$Bytes" 29 ⟨"WaitingWrites$Bytes", "addPair", "(I)V"⟩ ∈ gw := g1 (i := 140) rfl rfl
theorem wd306 : Cond.instanceMethod ⟨"WaitingWrites$Bytes", "addPair", "(I)V"⟩ ∈ gw := g1 (i := 141) rfl rfl
theorem wd307 : Cond.selects "WaitingWrites$Bytes" ⟨"WaitingWrites$Bytes", "addPair", "(I)V"⟩ ⟨"WaitingWrites$Bytes", "addPair", "(I)V"⟩ ∈ gw := g1 (i := 142) rfl rfl
theorem wd308 : Cond.methodLink "WaitingWrites$Bytes" 25 ⟨"WaitingWrites$Bytes", "add", "(I)V"⟩ ∈ gw := g1 (i := 144) rfl rfl
theorem wd309 : Cond.methodLink "WaitingWrites" 93 ⟨"WaitingWrites", "isKey", "(I)Z"⟩ ∈ gw := g1 (i := 149) rfl rfl
theorem wd310 : Cond.fieldLink "WaitingWrites" 97 "WaitingWrites" "mutations" "I" ∈ gw := g1 (i := 90) rfl rfl
theorem wd311 : Cond.methodLink "WaitingWrites" 103 ⟨"WaitingWrites$Bytes", "addFrom", "(LWaitingWrites$Bytes;I)V"⟩ ∈ gw := g1 (i := 150) rfl rfl
theorem wd312 : Cond.instanceMethod ⟨"WaitingWrites$Bytes", "addFrom", "(LWaitingWrites$Bytes;I)V"⟩ ∈ gw := g1 (i := 151) rfl rfl
theorem wd313 : Cond.selects "WaitingWrites$Bytes" ⟨"WaitingWrites$Bytes", "addFrom", "(LWaitingWrites$Bytes;I)V"⟩ ⟨"WaitingWrites$Bytes", "addFrom", "(LWaitingWrites$Bytes;I)V"⟩ ∈ gw := g1 (i := 152) rfl rfl
theorem wd314 : Cond.methodLink "WaitingWrites" 111 ⟨"WaitingWrites$Layout", "copyFrom", "(LWaitingWrites$Layout;)V"⟩ ∈ gw := g1 (i := 154) rfl rfl
theorem wd315 : Cond.instanceMethod ⟨"WaitingWrites$Layout", "copyFrom", "(LWaitingWrites$Layout;)V"⟩ ∈ gw := g1 (i := 155) rfl rfl
theorem wd316 : Cond.selects "WaitingWrites$Layout" ⟨"WaitingWrites$Layout", "copyFrom", "(LWaitingWrites$Layout;)V"⟩ ⟨"WaitingWrites$Layout", "copyFrom", "(LWaitingWrites$Layout;)V"⟩ ∈ gw := g1 (i := 156) rfl rfl
theorem wd317 : Cond.methodLink "WaitingWrites" 115 ⟨"WaitingWrites$Layout", "take", "(II)I"⟩ ∈ gw := g1 (i := 158) rfl rfl
theorem wd318 : Cond.instanceMethod ⟨"WaitingWrites$Layout", "take", "(II)I"⟩ ∈ gw := g1 (i := 159) rfl rfl
theorem wd319 : Cond.selects "WaitingWrites$Layout" ⟨"WaitingWrites$Layout", "take", "(II)I"⟩ ⟨"WaitingWrites$Layout", "take", "(II)I"⟩ ∈ gw := g1 (i := 160) rfl rfl
theorem wd320 : Cond.methodLink "WaitingWrites" 119 ⟨"WaitingWrites$Queue", "hasRoomFor", "(I)Z"⟩ ∈ gw := g1 (i := 175) rfl rfl
theorem wd321 : Cond.instanceMethod ⟨"WaitingWrites$Queue", "hasRoomFor", "(I)Z"⟩ ∈ gw := g1 (i := 176) rfl rfl
theorem wd322 : Cond.selects "WaitingWrites$Queue" ⟨"WaitingWrites$Queue", "hasRoomFor", "(I)Z"⟩ ⟨"WaitingWrites$Queue", "hasRoomFor", "(I)Z"⟩ ∈ gw := g1 (i := 177) rfl rfl
theorem wd323 : Cond.fieldLink "WaitingWrites" 122 "WaitingWrites$Index" "changes" "LWaitingWrites$Entries;" ∈ gw := g0 (i := 182) rfl rfl
theorem wd324 : Cond.methodLink "WaitingWrites" 126 ⟨"WaitingWrites", "makeChunk", "(III)I"⟩ ∈ gw := g1 (i := 179) rfl rfl
theorem wd325 : Cond.instanceMethod ⟨"WaitingWrites", "makeChunk", "(III)I"⟩ ∈ gw := g1 (i := 181) rfl rfl
theorem wd326 : Cond.selects "WaitingWrites" ⟨"WaitingWrites", "makeChunk", "(III)I"⟩ ⟨"WaitingWrites", "makeChunk", "(III)I"⟩ ∈ gw := gs (i := 6) rfl rfl
theorem wd327 : Cond.methodLink "WaitingWrites" 130 ⟨"WaitingWrites$Entries", "set", "(II)V"⟩ ∈ gw := g1 (i := 210) rfl rfl
theorem wd328 : Cond.methodLink "WaitingWrites$Layout" 32 ⟨"WaitingWrites$Layout", "emptyCount", "()I"⟩ ∈ gw := g1 (i := 163) rfl rfl
theorem wd329 : Cond.instanceMethod ⟨"WaitingWrites$Layout", "emptyCount", "()I"⟩ ∈ gw := g1 (i := 164) rfl rfl
theorem wd330 : Cond.selects "WaitingWrites$Layout" ⟨"WaitingWrites$Layout", "emptyCount", "()I"⟩ ⟨"WaitingWrites$Layout", "emptyCount", "()I"⟩ ∈ gw := g1 (i := 165) rfl rfl
theorem wd331 : Cond.methodLink "WaitingWrites$Layout" 36 ⟨"WaitingWrites$Layout", "lowestEmpty", "()I"⟩ ∈ gw := g1 (i := 171) rfl rfl
theorem wd332 : Cond.instanceMethod ⟨"WaitingWrites$Layout", "lowestEmpty", "()I"⟩ ∈ gw := g1 (i := 173) rfl rfl
theorem wd333 : Cond.selects "WaitingWrites$Layout" ⟨"WaitingWrites$Layout", "lowestEmpty", "()I"⟩ ⟨"WaitingWrites$Layout", "lowestEmpty", "()I"⟩ ∈ gw := gs (i := 5) rfl rfl
theorem wd334 : Cond.methodLink "WaitingWrites$Layout" 29 ⟨"WaitingWrites$Layout", "isEmpty", "(I)Z"⟩ ∈ gw := g1 (i := 167) rfl rfl
theorem wd335 : Cond.instanceMethod ⟨"WaitingWrites$Layout", "isEmpty", "(I)Z"⟩ ∈ gw := g1 (i := 168) rfl rfl
theorem wd336 : Cond.selects "WaitingWrites$Layout" ⟨"WaitingWrites$Layout", "isEmpty", "(I)Z"⟩ ⟨"WaitingWrites$Layout", "isEmpty", "(I)Z"⟩ ∈ gw := g1 (i := 169) rfl rfl
theorem wd337 : Cond.methodLink "WaitingWrites" 304 ⟨"WaitingWrites", "spellChunk", "(II)V"⟩ ∈ gw := g1 (i := 183) rfl rfl
theorem wd338 : Cond.instanceMethod ⟨"WaitingWrites", "spellChunk", "(II)V"⟩ ∈ gw := g1 (i := 185) rfl rfl
theorem wd339 : Cond.selects "WaitingWrites" ⟨"WaitingWrites", "spellChunk", "(II)V"⟩ ⟨"WaitingWrites", "spellChunk", "(II)V"⟩ ∈ gw := gs (i := 7) rfl rfl
theorem wd340 : Cond.methodLink "WaitingWrites" 307 ⟨"WaitingWrites$Queue", "numbered", "(I)LWaitingWrites$Write;"⟩ ∈ gw := g1 (i := 188) rfl rfl
theorem wd341 : Cond.instanceMethod ⟨"WaitingWrites$Queue", "numbered", "(I)LWaitingWrites$Write;"⟩ ∈ gw := g1 (i := 189) rfl rfl
theorem wd342 : Cond.selects "WaitingWrites$Queue" ⟨"WaitingWrites$Queue", "numbered", "(I)LWaitingWrites$Write;"⟩ ⟨"WaitingWrites$Queue", "numbered", "(I)LWaitingWrites$Write;"⟩ ∈ gw := g1 (i := 190) rfl rfl
theorem wd343 : Cond.methodLink "WaitingWrites" 310 ⟨"WaitingWrites$Queue", "make", "(I)LWaitingWrites$Write;"⟩ ∈ gw := g1 (i := 192) rfl rfl
theorem wd344 : Cond.instanceMethod ⟨"WaitingWrites$Queue", "make", "(I)LWaitingWrites$Write;"⟩ ∈ gw := g1 (i := 193) rfl rfl
theorem wd345 : Cond.selects "WaitingWrites$Queue" ⟨"WaitingWrites$Queue", "make", "(I)LWaitingWrites$Write;"⟩ ⟨"WaitingWrites$Queue", "make", "(I)LWaitingWrites$Write;"⟩ ∈ gw := g1 (i := 194) rfl rfl
theorem wd346 : Cond.methodLink "WaitingWrites" 313 ⟨"WaitingWrites$Write", "fill", "(LWaitingWrites$Bytes;I)V"⟩ ∈ gw := g1 (i := 200) rfl rfl
theorem wd347 : Cond.instanceMethod ⟨"WaitingWrites$Write", "fill", "(LWaitingWrites$Bytes;I)V"⟩ ∈ gw := g1 (i := 201) rfl rfl
theorem wd348 : Cond.selects "WaitingWrites$Write" ⟨"WaitingWrites$Write", "fill", "(LWaitingWrites$Bytes;I)V"⟩ ⟨"WaitingWrites$Write", "fill", "(LWaitingWrites$Bytes;I)V"⟩ ∈ gw := g1 (i := 202) rfl rfl
theorem wd349 : Cond.methodLink "WaitingWrites" 315 ⟨"WaitingWrites$Write", "waitFor", "(LWaitingWrites$Write;)V"⟩ ∈ gw := g1 (i := 206) rfl rfl
theorem wd350 : Cond.instanceMethod ⟨"WaitingWrites$Write", "waitFor", "(LWaitingWrites$Write;)V"⟩ ∈ gw := g1 (i := 207) rfl rfl
theorem wd351 : Cond.selects "WaitingWrites$Write" ⟨"WaitingWrites$Write", "waitFor", "(LWaitingWrites$Write;)V"⟩ ⟨"WaitingWrites$Write", "waitFor", "(LWaitingWrites$Write;)V"⟩ ∈ gw := g1 (i := 208) rfl rfl
theorem wd352 : Cond.methodLink "WaitingWrites" 318 ⟨"WaitingWrites$Bytes", "addPair", "(I)V"⟩ ∈ gw := g1 (i := 187) rfl rfl
theorem wd353 : Cond.fieldLink "WaitingWrites$Queue" 31 "WaitingWrites$Write" "number" "I" ∈ gw := g0 (i := 80) rfl rfl
theorem wd354 : Cond.fieldLink "WaitingWrites$Queue" 24 "WaitingWrites$Queue" "made" "I" ∈ gw := g0 (i := 109) rfl rfl
theorem wd355 : Cond.methodLink "WaitingWrites$Queue" 27 ⟨"WaitingWrites$Write", "begin", "(II)V"⟩ ∈ gw := g1 (i := 196) rfl rfl
theorem wd356 : Cond.instanceMethod ⟨"WaitingWrites$Write", "begin", "(II)V"⟩ ∈ gw := g1 (i := 197) rfl rfl
theorem wd357 : Cond.selects "WaitingWrites$Write" ⟨"WaitingWrites$Write", "begin", "(II)V"⟩ ⟨"WaitingWrites$Write", "begin", "(II)V"⟩ ∈ gw := g1 (i := 198) rfl rfl
theorem wd358 : Cond.fieldLink "WaitingWrites$Write" 19 "WaitingWrites$Write" "number" "I" ∈ gw := g0 (i := 79) rfl rfl
theorem wd359 : Cond.fieldLink "WaitingWrites$Write" 22 "WaitingWrites$Write" "target" "I" ∈ gw := g0 (i := 82) rfl rfl
theorem wd360 : Cond.fieldLink "WaitingWrites$Write" 25 "WaitingWrites$Write" "rec" "LWaitingWrites$Rec;" ∈ gw := g0 (i := 86) rfl rfl
theorem wd361 : Cond.fieldLink "WaitingWrites$Write" 29 "WaitingWrites$Write" "lowSeats" "J" ∈ gw := g0 (i := 89) rfl rfl
theorem wd362 : Cond.fieldLink "WaitingWrites$Write" 33 "WaitingWrites$Write" "highSeats" "J" ∈ gw := g0 (i := 90) rfl rfl
theorem wd363 : Cond.methodLink "WaitingWrites$Write" 36 ⟨"WaitingWrites$Bytes", "at", "(I)I"⟩ ∈ gw := g1 (i := 204) rfl rfl
theorem wd364 : Cond.methodLink "WaitingWrites$Write" 42 ⟨"java/lang/Math", "max", "(II)I"⟩ ∈ gw := g1 (i := 205) rfl rfl
theorem wd365 : Cond.methodLink "WaitingWrites" 136 ⟨"WaitingWrites$Index", "placeOf", "(I)I"⟩ ∈ gw := g1 (i := 215) rfl rfl
theorem wd366 : Cond.instanceMethod ⟨"WaitingWrites$Index", "placeOf", "(I)I"⟩ ∈ gw := g1 (i := 216) rfl rfl
theorem wd367 : Cond.selects "WaitingWrites$Index" ⟨"WaitingWrites$Index", "placeOf", "(I)I"⟩ ⟨"WaitingWrites$Index", "placeOf", "(I)I"⟩ ∈ gw := g1 (i := 217) rfl rfl
theorem wd368 : Cond.methodLink "WaitingWrites$Index" 45 ⟨"WaitingWrites$Entries", "of", "(I)I"⟩ ∈ gw := g1 (i := 219) rfl rfl
theorem wd369 : Cond.instanceMethod ⟨"WaitingWrites$Entries", "of", "(I)I"⟩ ∈ gw := g1 (i := 220) rfl rfl
theorem wd370 : Cond.selects "WaitingWrites$Entries" ⟨"WaitingWrites$Entries", "of", "(I)I"⟩ ⟨"WaitingWrites$Entries", "of", "(I)I"⟩ ∈ gw := g1 (i := 221) rfl rfl
theorem wd371 : Cond.methodLink "WaitingWrites" 146 ⟨"WaitingWrites$Bytes", "at", "(I)I"⟩ ∈ gw := g1 (i := 231) rfl rfl
theorem wd372 : Cond.fieldLink "WaitingWrites" 149 "WaitingWrites$Entries" "count" "I" ∈ gw := g0 (i := 170) rfl rfl
theorem wd373 : Cond.fieldLink "WaitingWrites" 150 "WaitingWrites$Index" "count" "I" ∈ gw := g0 (i := 185) rfl rfl
theorem wd374 : Cond.methodLink "WaitingWrites" 151 ⟨"WaitingWrites$Index", "keyCount", "()I"⟩ ∈ gw := g2 (i := 0) rfl rfl
theorem wd375 : Cond.instanceMethod ⟨"WaitingWrites$Index", "keyCount", "()I"⟩ ∈ gw := g2 (i := 1) rfl rfl
theorem wd376 : Cond.selects "WaitingWrites$Index" ⟨"WaitingWrites$Index", "keyCount", "()I"⟩ ⟨"WaitingWrites$Index", "keyCount", "()I"⟩ ∈ gw := g2 (i := 2) rfl rfl
theorem wd377 : Cond.methodLink "WaitingWrites" 155 ⟨"WaitingWrites", "tableLength", "(I)I"⟩ ∈ gw := g2 (i := 5) rfl rfl
theorem wd378 : Cond.static ⟨"WaitingWrites", "tableLength", "(I)I"⟩ ∈ gw := g2 (i := 6) rfl rfl
theorem wd379 : Cond.methodLink "WaitingWrites" 158 ⟨"WaitingWrites", "makeTable", "(Z)I"⟩ ∈ gw := g2 (i := 8) rfl rfl
theorem wd380 : Cond.instanceMethod ⟨"WaitingWrites", "makeTable", "(Z)I"⟩ ∈ gw := g2 (i := 10) rfl rfl
theorem wd381 : Cond.selects "WaitingWrites" ⟨"WaitingWrites", "makeTable", "(Z)I"⟩ ⟨"WaitingWrites", "makeTable", "(Z)I"⟩ ∈ gw := gs (i := 8) rfl rfl
theorem wd382 : Cond.methodLink "WaitingWrites" 162 ⟨"WaitingWrites", "makeRecord", "(II)V"⟩ ∈ gw := g2 (i := 55) rfl rfl
theorem wd383 : Cond.instanceMethod ⟨"WaitingWrites", "makeRecord", "(II)V"⟩ ∈ gw := g2 (i := 57) rfl rfl
theorem wd384 : Cond.selects "WaitingWrites" ⟨"WaitingWrites", "makeRecord", "(II)V"⟩ ⟨"WaitingWrites", "makeRecord", "(II)V"⟩ ∈ gw := gs (i := 12) rfl rfl
theorem wd385 : Cond.methodLink "WaitingWrites$Index" 48 ⟨"WaitingWrites$Index", "placeOf", "(I)I"⟩ ∈ gw := g2 (i := 4) rfl rfl
theorem wd386 : Cond.methodLink "WaitingWrites" 321 ⟨"WaitingWrites$Index", "gather", "(Z)V"⟩ ∈ gw := g2 (i := 12) rfl rfl
theorem wd387 : Cond.instanceMethod ⟨"WaitingWrites$Index", "gather", "(Z)V"⟩ ∈ gw := g2 (i := 13) rfl rfl
theorem wd388 : Cond.selects "WaitingWrites$Index" ⟨"WaitingWrites$Index", "gather", "(Z)V"⟩ ⟨"WaitingWrites$Index", "gather", "(Z)V"⟩ ∈ gw := g2 (i := 14) rfl rfl
theorem wd389 : Cond.fieldLink "WaitingWrites" 325 "WaitingWrites$Index" "fresh" "LWaitingWrites$Entries;" ∈ gw := g0 (i := 187) rfl rfl
theorem wd390 : Cond.methodLink "WaitingWrites" 328 ⟨"WaitingWrites$Entries", "spell", "(LWaitingWrites$Bytes;)V"⟩ ∈ gw := g2 (i := 17) rfl rfl
theorem wd391 : Cond.instanceMethod ⟨"WaitingWrites$Entries", "spell", "(LWaitingWrites$Bytes;)V"⟩ ∈ gw := g2 (i := 18) rfl rfl
theorem wd392 : Cond.selects "WaitingWrites$Entries" ⟨"WaitingWrites$Entries", "spell", "(LWaitingWrites$Bytes;)V"⟩ ⟨"WaitingWrites$Entries", "spell", "(LWaitingWrites$Bytes;)V"⟩ ∈ gw := g2 (i := 19) rfl rfl
theorem wd393 : Cond.methodLink "WaitingWrites" 332 ⟨"WaitingWrites", "tieToObjects", "(I)V"⟩ ∈ gw := g2 (i := 23) rfl rfl
theorem wd394 : Cond.instanceMethod ⟨"WaitingWrites", "tieToObjects", "(I)V"⟩ ∈ gw := g2 (i := 25) rfl rfl
theorem wd395 : Cond.selects "WaitingWrites" ⟨"WaitingWrites", "tieToObjects", "(I)V"⟩ ⟨"WaitingWrites", "tieToObjects", "(I)V"⟩ ∈ gw := gs (i := 9) rfl rfl
theorem wd396 : Cond.methodLink "WaitingWrites" 335 ⟨"WaitingWrites$Index", "adopt", "(ZI)V"⟩ ∈ gw := g2 (i := 51) rfl rfl
theorem wd397 : Cond.instanceMethod ⟨"WaitingWrites$Index", "adopt", "(ZI)V"⟩ ∈ gw := g2 (i := 52) rfl rfl
theorem wd398 : Cond.selects "WaitingWrites$Index" ⟨"WaitingWrites$Index", "adopt", "(ZI)V"⟩ ⟨"WaitingWrites$Index", "adopt", "(ZI)V"⟩ ∈ gw := g2 (i := 53) rfl rfl
theorem wd399 : Cond.methodLink "WaitingWrites$Index" 51 ⟨"WaitingWrites$Entries", "set", "(II)V"⟩ ∈ gw := g2 (i := 16) rfl rfl
theorem wd400 : Cond.methodLink "WaitingWrites$Entries" 35 ⟨"WaitingWrites$Bytes", "clear", "()V"⟩ ∈ gw := g2 (i := 21) rfl rfl
theorem wd401 : Cond.methodLink "WaitingWrites$Entries" 38 ⟨"WaitingWrites$Bytes", "add", "(I)V"⟩ ∈ gw := g2 (i := 22) rfl rfl
theorem wd402 : Cond.methodLink "WaitingWrites" 339 ⟨"WaitingWrites", "clearMarks", "()V"⟩ ∈ gw := g2 (i := 27) rfl rfl
theorem wd403 : Cond.instanceMethod ⟨"WaitingWrites", "clearMarks", "()V"⟩ ∈ gw := g2 (i := 29) rfl rfl
theorem wd404 : Cond.selects "WaitingWrites" ⟨"WaitingWrites", "clearMarks", "()V"⟩ ⟨"WaitingWrites", "clearMarks", "()V"⟩ ∈ gw := gs (i := 10) rfl rfl
theorem wd405 : Cond.methodLink "WaitingWrites" 342 ⟨"WaitingWrites$Entries", "of", "(I)I"⟩ ∈ gw := g2 (i := 31) rfl rfl
theorem wd406 : Cond.methodLink "WaitingWrites" 345 ⟨"WaitingWrites", "markChunk", "(I)V"⟩ ∈ gw := g2 (i := 32) rfl rfl
theorem wd407 : Cond.instanceMethod ⟨"WaitingWrites", "markChunk", "(I)V"⟩ ∈ gw := g2 (i := 34) rfl rfl
theorem wd408 : Cond.selects "WaitingWrites" ⟨"WaitingWrites", "markChunk", "(I)V"⟩ ⟨"WaitingWrites", "markChunk", "(I)V"⟩ ∈ gw := gs (i := 11) rfl rfl
theorem wd409 : Cond.fieldLink "WaitingWrites" 205 "WaitingWrites$Queue" "count" "I" ∈ gw := g0 (i := 108) rfl rfl
theorem wd410 : Cond.methodLink "WaitingWrites" 222 ⟨"WaitingWrites$Queue", "at", "(I)LWaitingWrites$Write;"⟩ ∈ gw := g2 (i := 37) rfl rfl
theorem wd411 : Cond.instanceMethod ⟨"WaitingWrites$Queue", "at", "(I)LWaitingWrites$Write;"⟩ ∈ gw := g2 (i := 38) rfl rfl
theorem wd412 : Cond.selects "WaitingWrites$Queue" ⟨"WaitingWrites$Queue", "at", "(I)LWaitingWrites$Write;"⟩ ⟨"WaitingWrites$Queue", "at", "(I)LWaitingWrites$Write;"⟩ ∈ gw := g2 (i := 39) rfl rfl
theorem wd413 : Cond.methodLink "WaitingWrites" 348 ⟨"WaitingWrites$Write", "isOfBlock", "()Z"⟩ ∈ gw := g2 (i := 41) rfl rfl
theorem wd414 : Cond.instanceMethod ⟨"WaitingWrites$Write", "isOfBlock", "()Z"⟩ ∈ gw := g2 (i := 42) rfl rfl
theorem wd415 : Cond.selects "WaitingWrites$Write" ⟨"WaitingWrites$Write", "isOfBlock", "()Z"⟩ ⟨"WaitingWrites$Write", "isOfBlock", "()Z"⟩ ∈ gw := g2 (i := 43) rfl rfl
theorem wd416 : Cond.fieldLink "WaitingWrites" 230 "WaitingWrites$Write" "target" "I" ∈ gw := g0 (i := 85) rfl rfl
theorem wd417 : Cond.methodLink "WaitingWrites" 352 ⟨"WaitingWrites$Queue", "lastOnesWaitFor", "(ILWaitingWrites$Write;)V"⟩ ∈ gw := g2 (i := 45) rfl rfl
theorem wd418 : Cond.instanceMethod ⟨"WaitingWrites$Queue", "lastOnesWaitFor", "(ILWaitingWrites$Write;)V"⟩ ∈ gw := g2 (i := 46) rfl rfl
theorem wd419 : Cond.selects "WaitingWrites$Queue" ⟨"WaitingWrites$Queue", "lastOnesWaitFor", "(ILWaitingWrites$Write;)V"⟩ ⟨"WaitingWrites$Queue", "lastOnesWaitFor", "(ILWaitingWrites$Write;)V"⟩ ∈ gw := g2 (i := 47) rfl rfl
theorem wd420 : Cond.methodLink "WaitingWrites" 356 ⟨"java/lang/Math", "min", "(II)I"⟩ ∈ gw := g2 (i := 36) rfl rfl
theorem wd421 : Cond.methodLink "WaitingWrites$Queue" 37 ⟨"java/lang/Math", "max", "(II)I"⟩ ∈ gw := g2 (i := 49) rfl rfl
theorem wd422 : Cond.methodLink "WaitingWrites$Queue" 43 ⟨"WaitingWrites$Write", "waitFor", "(LWaitingWrites$Write;)V"⟩ ∈ gw := g2 (i := 50) rfl rfl
theorem wd423 : Cond.classLink "WaitingWrites" 198 "WaitingWrites$Rec" ∈ gw := g2 (i := 59) rfl rfl
theorem wd424 : Cond.fieldLink "WaitingWrites" 359 "WaitingWrites$Rec" "number" "I" ∈ gw := g0 (i := 38) rfl rfl
theorem wd425 : Cond.fieldLink "WaitingWrites" 236 "WaitingWrites$Layout" "pointers" "[I" ∈ gw := g0 (i := 141) rfl rfl
theorem wd426 : Cond.methodLink "WaitingWrites" 360 ⟨"[I", "clone", "()Ljava/lang/Object;"⟩ ∈ gw := g2 (i := 60) rfl rfl
theorem wd427 : Cond.sameMethod "[I" "java/lang/Object" "clone" "()Ljava/lang/Object;" ∈ gw := g2 (i := 61) rfl rfl
theorem wd428 : Cond.native ⟨"java/lang/Object", "clone", "()Ljava/lang/Object;"⟩ ∈ gw := g2 (i := 62) rfl rfl
theorem wd429 : Cond.instanceMethod ⟨"java/lang/Object", "clone", "()Ljava/lang/Object;"⟩ ∈ gw := g2 (i := 63) rfl rfl
theorem wd430 : Cond.selects "[I" ⟨"[I", "clone", "()Ljava/lang/Object;"⟩ ⟨"java/lang/Object", "clone", "()Ljava/lang/Object;"⟩ ∈ gw := g2 (i := 64) rfl rfl
theorem wd431 : Cond.classLink "WaitingWrites" 361 "[I" ∈ gw := g2 (i := 66) rfl rfl
theorem wd432 : Cond.methodLink "WaitingWrites" 365 ⟨"WaitingWrites$Index", "tablePlaces", "()[I"⟩ ∈ gw := g2 (i := 67) rfl rfl
theorem wd433 : Cond.instanceMethod ⟨"WaitingWrites$Index", "tablePlaces", "()[I"⟩ ∈ gw := g2 (i := 68) rfl rfl
theorem wd434 : Cond.selects "WaitingWrites$Index" ⟨"WaitingWrites$Index", "tablePlaces", "()[I"⟩ ⟨"WaitingWrites$Index", "tablePlaces", "()[I"⟩ ∈ gw := g2 (i := 69) rfl rfl
theorem wd435 : Cond.methodLink "WaitingWrites" 369 ⟨"WaitingWrites$Rec", "<init>", "(III[I[I)V"⟩ ∈ gw := g2 (i := 76) rfl rfl
theorem wd436 : Cond.methodLink "WaitingWrites" 372 ⟨"WaitingWrites$Rec", "slot", "()I"⟩ ∈ gw := g2 (i := 77) rfl rfl
theorem wd437 : Cond.instanceMethod ⟨"WaitingWrites$Rec", "slot", "()I"⟩ ∈ gw := g2 (i := 78) rfl rfl
theorem wd438 : Cond.selects "WaitingWrites$Rec" ⟨"WaitingWrites$Rec", "slot", "()I"⟩ ⟨"WaitingWrites$Rec", "slot", "()I"⟩ ∈ gw := g2 (i := 79) rfl rfl
theorem wd439 : Cond.fieldLink "WaitingWrites" 375 "WaitingWrites$Write" "rec" "LWaitingWrites$Rec;" ∈ gw := g0 (i := 88) rfl rfl
theorem wd440 : Cond.methodLink "WaitingWrites" 378 ⟨"WaitingWrites$Write", "isIn", "(I)Z"⟩ ∈ gw := g2 (i := 81) rfl rfl
theorem wd441 : Cond.instanceMethod ⟨"WaitingWrites$Write", "isIn", "(I)Z"⟩ ∈ gw := g2 (i := 82) rfl rfl
theorem wd442 : Cond.selects "WaitingWrites$Write" ⟨"WaitingWrites$Write", "isIn", "(I)Z"⟩ ⟨"WaitingWrites$Write", "isIn", "(I)Z"⟩ ∈ gw := g2 (i := 83) rfl rfl
theorem wd443 : Cond.fieldLink "WaitingWrites" 225 "WaitingWrites$Write" "number" "I" ∈ gw := g0 (i := 81) rfl rfl
theorem wd444 : Cond.methodLink "WaitingWrites$Index" 35 ⟨"java/lang/Math", "min", "(II)I"⟩ ∈ gw := g2 (i := 71) rfl rfl
theorem wd445 : Cond.methodLink "WaitingWrites$Index" 41 ⟨"WaitingWrites$Index", "tablePlace", "(I)I"⟩ ∈ gw := g2 (i := 72) rfl rfl
theorem wd446 : Cond.instanceMethod ⟨"WaitingWrites$Index", "tablePlace", "(I)I"⟩ ∈ gw := g2 (i := 73) rfl rfl
theorem wd447 : Cond.selects "WaitingWrites$Index" ⟨"WaitingWrites$Index", "tablePlace", "(I)I"⟩ ⟨"WaitingWrites$Index", "tablePlace", "(I)I"⟩ ∈ gw := g2 (i := 74) rfl rfl
theorem wd448 : Cond.methodLink "WaitingWrites$Write" 48 ⟨"WaitingWrites$Write", "isOfBlock", "()Z"⟩ ∈ gw := g2 (i := 85) rfl rfl
theorem wd449 : Cond.methodLink "WaitingWrites" 165 ⟨"WaitingWrites", "isExtent", "(I)Z"⟩ ∈ gw := g2 (i := 90) rfl rfl
theorem wd450 : Cond.fieldLink "WaitingWrites" 168 "WaitingWrites$Layout" "open" "I" ∈ gw := g0 (i := 143) rfl rfl
theorem wd451 : Cond.methodLink "WaitingWrites" 171 ⟨"WaitingWrites$Layout", "isEmpty", "(I)Z"⟩ ∈ gw := g2 (i := 91) rfl rfl
theorem wd452 : Cond.methodLink "WaitingWrites" 174 ⟨"WaitingWrites", "findMovers", "(I)I"⟩ ∈ gw := g2 (i := 92) rfl rfl
theorem wd453 : Cond.instanceMethod ⟨"WaitingWrites", "findMovers", "(I)I"⟩ ∈ gw := g2 (i := 94) rfl rfl
theorem wd454 : Cond.selects "WaitingWrites" ⟨"WaitingWrites", "findMovers", "(I)I"⟩ ⟨"WaitingWrites", "findMovers", "(I)I"⟩ ∈ gw := gs (i := 13) rfl rfl
theorem wd455 : Cond.methodLink "WaitingWrites" 177 ⟨"WaitingWrites$Index", "hasTableIn", "(I)Z"⟩ ∈ gw := g2 (i := 100) rfl rfl
theorem wd456 : Cond.instanceMethod ⟨"WaitingWrites$Index", "hasTableIn", "(I)Z"⟩ ∈ gw := g2 (i := 101) rfl rfl
theorem wd457 : Cond.selects "WaitingWrites$Index" ⟨"WaitingWrites$Index", "hasTableIn", "(I)Z"⟩ ⟨"WaitingWrites$Index", "hasTableIn", "(I)Z"⟩ ∈ gw := g2 (i := 102) rfl rfl
theorem wd458 : Cond.methodLink "WaitingWrites" 180 ⟨"WaitingWrites", "tryReclaim", "(IZ)I"⟩ ∈ gw := g2 (i := 104) rfl rfl
theorem wd459 : Cond.instanceMethod ⟨"WaitingWrites", "tryReclaim", "(IZ)I"⟩ ∈ gw := g2 (i := 106) rfl rfl
theorem wd460 : Cond.selects "WaitingWrites" ⟨"WaitingWrites", "tryReclaim", "(IZ)I"⟩ ⟨"WaitingWrites", "tryReclaim", "(IZ)I"⟩ ∈ gw := gs (i := 14) rfl rfl
theorem wd461 : Cond.methodLink "WaitingWrites" 184 ⟨"WaitingWrites", "moveObject", "(I)V"⟩ ∈ gw := g2 (i := 108) rfl rfl
theorem wd462 : Cond.instanceMethod ⟨"WaitingWrites", "moveObject", "(I)V"⟩ ∈ gw := g2 (i := 110) rfl rfl
theorem wd463 : Cond.selects "WaitingWrites" ⟨"WaitingWrites", "moveObject", "(I)V"⟩ ⟨"WaitingWrites", "moveObject", "(I)V"⟩ ∈ gw := gs (i := 15) rfl rfl
theorem wd464 : Cond.methodLink "WaitingWrites" 187 ⟨"WaitingWrites$Layout", "empty", "(I)V"⟩ ∈ gw := g2 (i := 112) rfl rfl
theorem wd465 : Cond.instanceMethod ⟨"WaitingWrites$Layout", "empty", "(I)V"⟩ ∈ gw := g2 (i := 113) rfl rfl
theorem wd466 : Cond.selects "WaitingWrites$Layout" ⟨"WaitingWrites$Layout", "empty", "(I)V"⟩ ⟨"WaitingWrites$Layout", "empty", "(I)V"⟩ ∈ gw := g2 (i := 114) rfl rfl
theorem wd467 : Cond.methodLink "WaitingWrites" 381 ⟨"WaitingWrites$Index", "keyAt", "(I)I"⟩ ∈ gw := g2 (i := 96) rfl rfl
theorem wd468 : Cond.instanceMethod ⟨"WaitingWrites$Index", "keyAt", "(I)I"⟩ ∈ gw := g2 (i := 97) rfl rfl
theorem wd469 : Cond.selects "WaitingWrites$Index" ⟨"WaitingWrites$Index", "keyAt", "(I)I"⟩ ⟨"WaitingWrites$Index", "keyAt", "(I)I"⟩ ∈ gw := g2 (i := 98) rfl rfl
theorem wd470 : Cond.fieldLink "WaitingWrites" 197 "WaitingWrites$Rec" "upto" "I" ∈ gw := g0 (i := 40) rfl rfl
theorem wd471 : Cond.methodLink "WaitingWrites" 202 ⟨"WaitingWrites", "issueReady", "(I)I"⟩ ∈ gw := g2 (i := 124) rfl rfl
theorem wd472 : Cond.instanceMethod ⟨"WaitingWrites", "issueReady", "(I)I"⟩ ∈ gw := g2 (i := 126) rfl rfl
theorem wd473 : Cond.selects "WaitingWrites" ⟨"WaitingWrites", "issueReady", "(I)I"⟩ ⟨"WaitingWrites", "issueReady", "(I)I"⟩ ∈ gw := gs (i := 16) rfl rfl
theorem wd474 : Cond.methodLink "WaitingWrites" 294 ⟨"WaitingWrites$Queue", "readyPosition", "(I)I"⟩ ∈ gw := g2 (i := 128) rfl rfl
theorem wd475 : Cond.instanceMethod ⟨"WaitingWrites$Queue", "readyPosition", "(I)I"⟩ ∈ gw := g2 (i := 129) rfl rfl
theorem wd476 : Cond.selects "WaitingWrites$Queue" ⟨"WaitingWrites$Queue", "readyPosition", "(I)I"⟩ ⟨"WaitingWrites$Queue", "readyPosition", "(I)I"⟩ ∈ gw := g2 (i := 130) rfl rfl
theorem wd477 : Cond.methodLink "WaitingWrites" 297 ⟨"WaitingWrites$Disk", "land", "(LWaitingWrites$Write;)V"⟩ ∈ gw := g2 (i := 142) rfl rfl
theorem wd478 : Cond.instanceMethod ⟨"WaitingWrites$Disk", "land", "(LWaitingWrites$Write;)V"⟩ ∈ gw := g2 (i := 143) rfl rfl
theorem wd479 : Cond.selects "WaitingWrites$Disk" ⟨"WaitingWrites$Disk", "land", "(LWaitingWrites$Write;)V"⟩ ⟨"WaitingWrites$Disk", "land", "(LWaitingWrites$Write;)V"⟩ ∈ gw := g2 (i := 144) rfl rfl
theorem wd480 : Cond.methodLink "WaitingWrites" 301 ⟨"WaitingWrites$Queue", "remove", "(I)V"⟩ ∈ gw := g2 (i := 149) rfl rfl
theorem wd481 : Cond.instanceMethod ⟨"WaitingWrites$Queue", "remove", "(I)V"⟩ ∈ gw := g2 (i := 150) rfl rfl
theorem wd482 : Cond.selects "WaitingWrites$Queue" ⟨"WaitingWrites$Queue", "remove", "(I)V"⟩ ⟨"WaitingWrites$Queue", "remove", "(I)V"⟩ ∈ gw := g2 (i := 151) rfl rfl
theorem wd483 : Cond.methodLink "WaitingWrites$Queue" 47 ⟨"WaitingWrites$Write", "waitsForHowMany", "()I"⟩ ∈ gw := g2 (i := 132) rfl rfl
theorem wd484 : Cond.instanceMethod ⟨"WaitingWrites$Write", "waitsForHowMany", "()I"⟩ ∈ gw := g2 (i := 133) rfl rfl
theorem wd485 : Cond.selects "WaitingWrites$Write" ⟨"WaitingWrites$Write", "waitsForHowMany", "()I"⟩ ⟨"WaitingWrites$Write", "waitsForHowMany", "()I"⟩ ∈ gw := g2 (i := 134) rfl rfl
theorem wd486 : Cond.fieldLink "WaitingWrites$Disk" 28 "WaitingWrites$Write" "rec" "LWaitingWrites$Rec;" ∈ gw := g0 (i := 87) rfl rfl
theorem wd487 : Cond.methodLink "WaitingWrites$Disk" 34 ⟨"WaitingWrites$Rec", "slot", "()I"⟩ ∈ gw := g2 (i := 146) rfl rfl
theorem wd488 : Cond.methodLink "WaitingWrites$Disk" 38 ⟨"WaitingWrites$Write", "isOfBlock", "()Z"⟩ ∈ gw := g2 (i := 147) rfl rfl
theorem wd489 : Cond.fieldLink "WaitingWrites$Disk" 42 "WaitingWrites$Write" "target" "I" ∈ gw := g0 (i := 83) rfl rfl
theorem wd490 : Cond.methodLink "WaitingWrites$Disk" 45 ⟨"WaitingWrites$Write", "at", "(I)I"⟩ ∈ gw := g2 (i := 148) rfl rfl
theorem wd491 : Cond.methodLink "WaitingWrites$Queue" 51 ⟨"WaitingWrites$Write", "waitNoMoreFor", "(LWaitingWrites$Write;)V"⟩ ∈ gw := g2 (i := 153) rfl rfl
theorem wd492 : Cond.instanceMethod ⟨"WaitingWrites$Write", "waitNoMoreFor", "(LWaitingWrites$Write;)V"⟩ ∈ gw := g2 (i := 154) rfl rfl
theorem wd493 : Cond.selects "WaitingWrites$Write" ⟨"WaitingWrites$Write", "waitNoMoreFor", "(LWaitingWrites$Write;)V"⟩ ⟨"WaitingWrites$Write", "waitNoMoreFor", "(LWaitingWrites$Write;)V"⟩ ∈ gw := g2 (i := 155) rfl rfl
theorem wd494 : Cond.constantLong "WaitingWrites$Write" 52 (Int64.ofNat 18446744073709551615) ∈ gw := g2 (i := 157) rfl rfl
theorem wd495 : Cond.methodLink "WaitingWrites" 206 ⟨"WaitingWrites$Queue", "clear", "()V"⟩ ∈ gw := g2 (i := 166) rfl rfl
theorem wd496 : Cond.instanceMethod ⟨"WaitingWrites$Queue", "clear", "()V"⟩ ∈ gw := g2 (i := 167) rfl rfl
theorem wd497 : Cond.selects "WaitingWrites$Queue" ⟨"WaitingWrites$Queue", "clear", "()V"⟩ ⟨"WaitingWrites$Queue", "clear", "()V"⟩ ∈ gw := g2 (i := 168) rfl rfl
theorem wd498 : Cond.methodLink "WaitingWrites" 207 ⟨"WaitingWrites$Cache", "clear", "()V"⟩ ∈ gw := g2 (i := 170) rfl rfl
theorem wd499 : Cond.instanceMethod ⟨"WaitingWrites$Cache", "clear", "()V"⟩ ∈ gw := g2 (i := 171) rfl rfl
theorem wd500 : Cond.selects "WaitingWrites$Cache" ⟨"WaitingWrites$Cache", "clear", "()V"⟩ ⟨"WaitingWrites$Cache", "clear", "()V"⟩ ∈ gw := g2 (i := 172) rfl rfl
theorem wd501 : Cond.fieldLink "WaitingWrites" 213 "WaitingWrites$Cache" "reads" "I" ∈ gw := g0 (i := 126) rfl rfl
theorem wd502 : Cond.methodLink "WaitingWrites" 216 ⟨"WaitingWrites", "aboutOff", "(I)I"⟩ ∈ gw := g2 (i := 182) rfl rfl
theorem wd503 : Cond.static ⟨"WaitingWrites", "aboutOff", "(I)I"⟩ ∈ gw := g2 (i := 183) rfl rfl
theorem wd504 : Cond.methodLink "WaitingWrites" 219 ⟨"WaitingWrites", "aboutMemory", "(I)I"⟩ ∈ gw := g2 (i := 185) rfl rfl
theorem wd505 : Cond.instanceMethod ⟨"WaitingWrites", "aboutMemory", "(I)I"⟩ ∈ gw := g2 (i := 187) rfl rfl
theorem wd506 : Cond.selects "WaitingWrites" ⟨"WaitingWrites", "aboutMemory", "(I)I"⟩ ⟨"WaitingWrites", "aboutMemory", "(I)I"⟩ ∈ gw := gs (i := 17) rfl rfl
theorem wd507 : Cond.methodLink "WaitingWrites" 387 ⟨"WaitingWrites$Queue", "readyCount", "()I"⟩ ∈ gw := g2 (i := 189) rfl rfl
theorem wd508 : Cond.instanceMethod ⟨"WaitingWrites$Queue", "readyCount", "()I"⟩ ∈ gw := g2 (i := 190) rfl rfl
theorem wd509 : Cond.selects "WaitingWrites$Queue" ⟨"WaitingWrites$Queue", "readyCount", "()I"⟩ ⟨"WaitingWrites$Queue", "readyCount", "()I"⟩ ∈ gw := g2 (i := 191) rfl rfl
theorem wd510 : Cond.methodLink "WaitingWrites" 390 ⟨"WaitingWrites$Layout", "emptyCount", "()I"⟩ ∈ gw := g2 (i := 193) rfl rfl
theorem wd511 : Cond.methodLink "WaitingWrites" 233 ⟨"WaitingWrites$Write", "waitsForHowMany", "()I"⟩ ∈ gw := g2 (i := 198) rfl rfl
theorem wd512 : Cond.methodLink "WaitingWrites" 239 ⟨"WaitingWrites", "liveBlocks", "(I)I"⟩ ∈ gw := g2 (i := 203) rfl rfl
theorem wd513 : Cond.instanceMethod ⟨"WaitingWrites", "liveBlocks", "(I)I"⟩ ∈ gw := g2 (i := 205) rfl rfl
theorem wd514 : Cond.selects "WaitingWrites" ⟨"WaitingWrites", "liveBlocks", "(I)I"⟩ ⟨"WaitingWrites", "liveBlocks", "(I)I"⟩ ∈ gw := gs (i := 18) rfl rfl
theorem wd515 : Cond.methodLink "WaitingWrites" 384 ⟨"WaitingWrites$Index", "tablePlace", "(I)I"⟩ ∈ gw := g2 (i := 207) rfl rfl
theorem wd516 : Cond.methodLink "WaitingWrites" 244 ⟨"WaitingWrites$Disk", "inSlot", "(I)LWaitingWrites$Rec;"⟩ ∈ gw := g2 (i := 216) rfl rfl
theorem wd517 : Cond.instanceMethod ⟨"WaitingWrites$Disk", "inSlot", "(I)LWaitingWrites$Rec;"⟩ ∈ gw := g2 (i := 217) rfl rfl
theorem wd518 : Cond.selects "WaitingWrites$Disk" ⟨"WaitingWrites$Disk", "inSlot", "(I)LWaitingWrites$Rec;"⟩ ⟨"WaitingWrites$Disk", "inSlot", "(I)LWaitingWrites$Rec;"⟩ ∈ gw := g2 (i := 218) rfl rfl
theorem wd519 : Cond.methodLink "WaitingWrites" 248 ⟨"WaitingWrites$Rec", "tell", "(I)I"⟩ ∈ gw := g2 (i := 220) rfl rfl
theorem wd520 : Cond.instanceMethod ⟨"WaitingWrites$Rec", "tell", "(I)I"⟩ ∈ gw := g2 (i := 221) rfl rfl
theorem wd521 : Cond.selects "WaitingWrites$Rec" ⟨"WaitingWrites$Rec", "tell", "(I)I"⟩ ⟨"WaitingWrites$Rec", "tell", "(I)I"⟩ ∈ gw := g2 (i := 222) rfl rfl
theorem wd522 : Cond.methodLink "WaitingWrites$Rec" 28 ⟨"WaitingWrites$Rec", "pointerOf", "(I)I"⟩ ∈ gw := g2 (i := 224) rfl rfl
theorem wd523 : Cond.methodLink "WaitingWrites$Rec" 32 ⟨"WaitingWrites$Rec", "tableCount", "()I"⟩ ∈ gw := g2 (i := 225) rfl rfl
theorem wd524 : Cond.methodLink "WaitingWrites$Rec" 36 ⟨"WaitingWrites$Rec", "tellTable", "(I)I"⟩ ∈ gw := g2 (i := 226) rfl rfl
theorem wd525 : Cond.instanceMethod ⟨"WaitingWrites$Rec", "tellTable", "(I)I"⟩ ∈ gw := g2 (i := 228) rfl rfl
theorem wd526 : Cond.selects "WaitingWrites$Rec" ⟨"WaitingWrites$Rec", "tellTable", "(I)I"⟩ ⟨"WaitingWrites$Rec", "tellTable", "(I)I"⟩ ∈ gw := gs (i := 19) rfl rfl
theorem wd527 : Cond.methodLink "WaitingWrites$Rec" 39 ⟨"WaitingWrites$Rec", "tableAt", "(I)I"⟩ ∈ gw := g2 (i := 230) rfl rfl
theorem wd528 : Cond.methodLink "WaitingWritesModel" 1 ⟨"java/lang/Object", "<init>", "()V"⟩ ∈ gw := g2 (i := 236) rfl rfl
theorem wd529 : Cond.arrayClass Jvm.ClassFile.FieldType.byte ∈ gw := g3 (i := 117) rfl rfl
theorem wd530 : Cond.fieldLink "WaitingWritesModel" 7 "WaitingWritesModel" "tape" "[B" ∈ gw := g2 (i := 238) rfl rfl
theorem wd531 : Cond.fieldLink "WaitingWritesModel" 13 "WaitingWritesModel" "disk" "[B" ∈ gw := g3 (i := 0) rfl rfl
theorem wd532 : Cond.fieldLink "WaitingWritesModel" 16 "WaitingWritesModel" "slots" "[I" ∈ gw := g3 (i := 1) rfl rfl
theorem wd533 : Cond.fieldLink "WaitingWritesModel" 20 "WaitingWritesModel" "pointer" "[I" ∈ gw := g3 (i := 3) rfl rfl
theorem wd534 : Cond.fieldLink "WaitingWritesModel" 23 "WaitingWritesModel" "emptied" "[I" ∈ gw := g3 (i := 4) rfl rfl
theorem wd535 : Cond.fieldLink "WaitingWritesModel" 26 "WaitingWritesModel" "kept" "[I" ∈ gw := g3 (i := 5) rfl rfl
theorem wd536 : Cond.fieldLink "WaitingWritesModel" 29 "WaitingWritesModel" "table" "[I" ∈ gw := g3 (i := 13) rfl rfl
theorem wd537 : Cond.fieldLink "WaitingWritesModel" 32 "WaitingWritesModel" "change" "[I" ∈ gw := g3 (i := 14) rfl rfl
theorem wd538 : Cond.fieldLink "WaitingWritesModel" 35 "WaitingWritesModel" "entry" "[I" ∈ gw := g3 (i := 15) rfl rfl
theorem wd539 : Cond.fieldLink "WaitingWritesModel" 38 "WaitingWritesModel" "number" "[I" ∈ gw := g3 (i := 16) rfl rfl
theorem wd540 : Cond.fieldLink "WaitingWritesModel" 41 "WaitingWritesModel" "target" "[I" ∈ gw := g3 (i := 17) rfl rfl
theorem wd541 : Cond.fieldLink "WaitingWritesModel" 44 "WaitingWritesModel" "depMany" "[I" ∈ gw := g3 (i := 18) rfl rfl
theorem wd542 : Cond.fieldLink "WaitingWritesModel" 47 "WaitingWritesModel" "dep" "[I" ∈ gw := g3 (i := 19) rfl rfl
theorem wd543 : Cond.fieldLink "WaitingWritesModel" 50 "WaitingWritesModel" "bytes" "[B" ∈ gw := g3 (i := 20) rfl rfl
theorem wd544 : Cond.fieldLink "WaitingWritesModel" 53 "WaitingWritesModel" "recordOf" "[I" ∈ gw := g3 (i := 21) rfl rfl
theorem wd545 : Cond.fieldLink "WaitingWritesModel" 56 "WaitingWritesModel" "lost" "[Z" ∈ gw := g3 (i := 22) rfl rfl
theorem wd546 : Cond.fieldLink "WaitingWritesModel" 60 "WaitingWritesModel" "cache" "[I" ∈ gw := g3 (i := 23) rfl rfl
theorem wd547 : Cond.fieldLink "WaitingWritesModel" 63 "WaitingWritesModel" "output" "[B" ∈ gw := g3 (i := 26) rfl rfl
theorem wd548 : Cond.fieldLink "WaitingWritesModel" 66 "WaitingWritesModel" "chunk" "[B" ∈ gw := g3 (i := 27) rfl rfl
theorem wd549 : Cond.fieldLink "WaitingWritesModel" 69 "WaitingWritesModel" "moved" "[B" ∈ gw := g3 (i := 28) rfl rfl
theorem wd550 : Cond.fieldLink "WaitingWritesModel" 72 "WaitingWritesModel" "movedKey" "[I" ∈ gw := g3 (i := 29) rfl rfl
theorem wd551 : Cond.fieldLink "WaitingWritesModel" 75 "WaitingWritesModel" "movedSize" "[I" ∈ gw := g3 (i := 30) rfl rfl
theorem wd552 : Cond.fieldLink "WaitingWritesModel" 78 "WaitingWritesModel" "fresh" "[I" ∈ gw := g3 (i := 33) rfl rfl
theorem wd553 : Cond.fieldLink "WaitingWritesModel" 81 "WaitingWritesModel" "open" "I" ∈ gw := g3 (i := 6) rfl rfl
theorem wd554 : Cond.fieldLink "WaitingWritesModel" 85 "WaitingWritesModel" "thrown" "I" ∈ gw := g2 (i := 237) rfl rfl
theorem wd555 : Cond.fieldLink "WaitingWritesModel" 88 "WaitingWritesModel" "taped" "I" ∈ gw := g2 (i := 239) rfl rfl
theorem wd556 : Cond.fieldLink "WaitingWritesModel" 145 "WaitingWritesModel" "off" "Z" ∈ gw := g3 (i := 2) rfl rfl
theorem wd557 : Cond.methodLink "WaitingWritesModel" 149 ⟨"WaitingWritesModel", "isKey", "(I)Z"⟩ ∈ gw := g3 (i := 126) rfl rfl
theorem wd558 : Cond.static ⟨"WaitingWritesModel", "isKey", "(I)Z"⟩ ∈ gw := g3 (i := 127) rfl rfl
theorem wd559 : Cond.methodLink "WaitingWritesModel" 152 ⟨"WaitingWritesModel", "keep", "()V"⟩ ∈ gw := g3 (i := 129) rfl rfl
theorem wd560 : Cond.instanceMethod ⟨"WaitingWritesModel", "keep", "()V"⟩ ∈ gw := g3 (i := 131) rfl rfl
theorem wd561 : Cond.selects "WaitingWritesModel" ⟨"WaitingWritesModel", "keep", "()V"⟩ ⟨"WaitingWritesModel", "keep", "()V"⟩ ∈ gw := gs (i := 20) rfl rfl
theorem wd562 : Cond.methodLink "WaitingWritesModel" 155 ⟨"WaitingWritesModel", "make", "(IIII)I"⟩ ∈ gw := g3 (i := 133) rfl rfl
theorem wd563 : Cond.instanceMethod ⟨"WaitingWritesModel", "make", "(IIII)I"⟩ ∈ gw := g3 (i := 135) rfl rfl
theorem wd564 : Cond.selects "WaitingWritesModel" ⟨"WaitingWritesModel", "make", "(IIII)I"⟩ ⟨"WaitingWritesModel", "make", "(IIII)I"⟩ ∈ gw := gs (i := 21) rfl rfl
theorem wd565 : Cond.methodLink "WaitingWritesModel" 159 ⟨"WaitingWritesModel", "undo", "(I)I"⟩ ∈ gw := g3 (i := 156) rfl rfl
theorem wd566 : Cond.instanceMethod ⟨"WaitingWritesModel", "undo", "(I)I"⟩ ∈ gw := g3 (i := 158) rfl rfl
theorem wd567 : Cond.selects "WaitingWritesModel" ⟨"WaitingWritesModel", "undo", "(I)I"⟩ ⟨"WaitingWritesModel", "undo", "(I)I"⟩ ∈ gw := gs (i := 26) rfl rfl
theorem wd568 : Cond.fieldLink "WaitingWritesModel" 94 "WaitingWritesModel" "waits" "I" ∈ gw := g3 (i := 11) rfl rfl
theorem wd569 : Cond.fieldLink "WaitingWritesModel" 162 "WaitingWritesModel" "mutations" "I" ∈ gw := g3 (i := 10) rfl rfl
theorem wd570 : Cond.fieldLink "WaitingWritesModel" 132 "WaitingWritesModel" "stamps" "I" ∈ gw := g3 (i := 9) rfl rfl
theorem wd571 : Cond.fieldLink "WaitingWritesModel" 121 "WaitingWritesModel" "numbers" "I" ∈ gw := g3 (i := 12) rfl rfl
theorem wd572 : Cond.methodLink "WaitingWritesModel" 114 ⟨"WaitingWritesModel", "blocksOf", "(I)I"⟩ ∈ gw := g3 (i := 137) rfl rfl
theorem wd573 : Cond.static ⟨"WaitingWritesModel", "blocksOf", "(I)I"⟩ ∈ gw := g3 (i := 138) rfl rfl
theorem wd574 : Cond.methodLink "WaitingWritesModel" 128 ⟨"WaitingWritesModel", "empties", "()I"⟩ ∈ gw := g3 (i := 140) rfl rfl
theorem wd575 : Cond.instanceMethod ⟨"WaitingWritesModel", "empties", "()I"⟩ ∈ gw := g3 (i := 142) rfl rfl
theorem wd576 : Cond.selects "WaitingWritesModel" ⟨"WaitingWritesModel", "empties", "()I"⟩ ⟨"WaitingWritesModel", "empties", "()I"⟩ ∈ gw := gs (i := 22) rfl rfl
theorem wd577 : Cond.methodLink "WaitingWritesModel" 135 ⟨"WaitingWritesModel", "recordWrite", "(I)I"⟩ ∈ gw := g3 (i := 144) rfl rfl
theorem wd578 : Cond.instanceMethod ⟨"WaitingWritesModel", "recordWrite", "(I)I"⟩ ∈ gw := g3 (i := 146) rfl rfl
theorem wd579 : Cond.selects "WaitingWritesModel" ⟨"WaitingWritesModel", "recordWrite", "(I)I"⟩ ⟨"WaitingWritesModel", "recordWrite", "(I)I"⟩ ∈ gw := gs (i := 23) rfl rfl
theorem wd580 : Cond.methodLink "WaitingWritesModel" 138 ⟨"WaitingWritesModel", "writer", "()I"⟩ ∈ gw := g3 (i := 148) rfl rfl
theorem wd581 : Cond.instanceMethod ⟨"WaitingWritesModel", "writer", "()I"⟩ ∈ gw := g3 (i := 150) rfl rfl
theorem wd582 : Cond.selects "WaitingWritesModel" ⟨"WaitingWritesModel", "writer", "()I"⟩ ⟨"WaitingWritesModel", "writer", "()I"⟩ ∈ gw := gs (i := 24) rfl rfl
theorem wd583 : Cond.methodLink "WaitingWritesModel" 141 ⟨"WaitingWritesModel", "needs", "(II)V"⟩ ∈ gw := g3 (i := 152) rfl rfl
theorem wd584 : Cond.instanceMethod ⟨"WaitingWritesModel", "needs", "(II)V"⟩ ∈ gw := g3 (i := 154) rfl rfl
theorem wd585 : Cond.selects "WaitingWritesModel" ⟨"WaitingWritesModel", "needs", "(II)V"⟩ ⟨"WaitingWritesModel", "needs", "(II)V"⟩ ∈ gw := gs (i := 25) rfl rfl
theorem wd586 : Cond.methodLink "WaitingWritesModel" 165 ⟨"WaitingWritesModel", "place", "(I)I"⟩ ∈ gw := g3 (i := 164) rfl rfl
theorem wd587 : Cond.instanceMethod ⟨"WaitingWritesModel", "place", "(I)I"⟩ ∈ gw := g3 (i := 166) rfl rfl
theorem wd588 : Cond.selects "WaitingWritesModel" ⟨"WaitingWritesModel", "place", "(I)I"⟩ ⟨"WaitingWritesModel", "place", "(I)I"⟩ ∈ gw := gs (i := 27) rfl rfl
theorem wd589 : Cond.fieldLink "WaitingWritesModel" 91 "WaitingWritesModel" "tables" "I" ∈ gw := g3 (i := 8) rfl rfl
theorem wd590 : Cond.methodLink "WaitingWritesModel" 111 ⟨"WaitingWritesModel", "length", "(I)I"⟩ ∈ gw := g3 (i := 172) rfl rfl
theorem wd591 : Cond.instanceMethod ⟨"WaitingWritesModel", "length", "(I)I"⟩ ∈ gw := g3 (i := 174) rfl rfl
theorem wd592 : Cond.selects "WaitingWritesModel" ⟨"WaitingWritesModel", "length", "(I)I"⟩ ⟨"WaitingWritesModel", "length", "(I)I"⟩ ∈ gw := gs (i := 28) rfl rfl
theorem wd593 : Cond.fieldLink "WaitingWritesModel" 168 "WaitingWritesModel" "outputSize" "I" ∈ gw := g3 (i := 31) rfl rfl
theorem wd594 : Cond.methodLink "WaitingWritesModel" 171 ⟨"WaitingWritesModel", "inside", "(II)I"⟩ ∈ gw := g3 (i := 184) rfl rfl
theorem wd595 : Cond.instanceMethod ⟨"WaitingWritesModel", "inside", "(II)I"⟩ ∈ gw := g3 (i := 186) rfl rfl
theorem wd596 : Cond.selects "WaitingWritesModel" ⟨"WaitingWritesModel", "inside", "(II)I"⟩ ⟨"WaitingWritesModel", "inside", "(II)I"⟩ ∈ gw := gs (i := 31) rfl rfl
theorem wd597 : Cond.methodLink "WaitingWritesModel" 174 ⟨"WaitingWritesModel", "useChunk", "(I)V"⟩ ∈ gw := g3 (i := 188) rfl rfl
theorem wd598 : Cond.instanceMethod ⟨"WaitingWritesModel", "useChunk", "(I)V"⟩ ∈ gw := g3 (i := 190) rfl rfl
theorem wd599 : Cond.selects "WaitingWritesModel" ⟨"WaitingWritesModel", "useChunk", "(I)V"⟩ ⟨"WaitingWritesModel", "useChunk", "(I)V"⟩ ∈ gw := gs (i := 32) rfl rfl
theorem wd600 : Cond.methodLink "WaitingWritesModel" 107 ⟨"WaitingWritesModel", "byteOf", "(II)I"⟩ ∈ gw := g3 (i := 176) rfl rfl
theorem wd601 : Cond.instanceMethod ⟨"WaitingWritesModel", "byteOf", "(II)I"⟩ ∈ gw := g3 (i := 178) rfl rfl
theorem wd602 : Cond.selects "WaitingWritesModel" ⟨"WaitingWritesModel", "byteOf", "(II)I"⟩ ⟨"WaitingWritesModel", "byteOf", "(II)I"⟩ ∈ gw := gs (i := 29) rfl rfl
theorem wd603 : Cond.methodLink "WaitingWritesModel" 97 ⟨"WaitingWritesModel", "writeOf", "(I)I"⟩ ∈ gw := g3 (i := 180) rfl rfl
theorem wd604 : Cond.instanceMethod ⟨"WaitingWritesModel", "writeOf", "(I)I"⟩ ∈ gw := g3 (i := 182) rfl rfl
theorem wd605 : Cond.selects "WaitingWritesModel" ⟨"WaitingWritesModel", "writeOf", "(I)I"⟩ ⟨"WaitingWritesModel", "writeOf", "(I)I"⟩ ∈ gw := gs (i := 30) rfl rfl
theorem wd606 : Cond.methodLink "WaitingWritesModel" 117 ⟨"WaitingWritesModel", "use", "(I)V"⟩ ∈ gw := g3 (i := 192) rfl rfl
theorem wd607 : Cond.instanceMethod ⟨"WaitingWritesModel", "use", "(I)V"⟩ ∈ gw := g3 (i := 194) rfl rfl
theorem wd608 : Cond.selects "WaitingWritesModel" ⟨"WaitingWritesModel", "use", "(I)V"⟩ ⟨"WaitingWritesModel", "use", "(I)V"⟩ ∈ gw := gs (i := 33) rfl rfl
theorem wd609 : Cond.fieldLink "WaitingWritesModel" 101 "WaitingWritesModel" "cached" "I" ∈ gw := g3 (i := 24) rfl rfl
theorem wd610 : Cond.fieldLink "WaitingWritesModel" 104 "WaitingWritesModel" "reads" "I" ∈ gw := g3 (i := 25) rfl rfl
theorem wd611 : Cond.methodLink "WaitingWritesModel" 189 ⟨"WaitingWritesModel", "changes", "()I"⟩ ∈ gw := g3 (i := 208) rfl rfl
theorem wd612 : Cond.instanceMethod ⟨"WaitingWritesModel", "changes", "()I"⟩ ∈ gw := g3 (i := 210) rfl rfl
theorem wd613 : Cond.selects "WaitingWritesModel" ⟨"WaitingWritesModel", "changes", "()I"⟩ ⟨"WaitingWritesModel", "changes", "()I"⟩ ∈ gw := gs (i := 34) rfl rfl
theorem wd614 : Cond.methodLink "WaitingWritesModel" 192 ⟨"WaitingWritesModel", "makeTable", "(Z)I"⟩ ∈ gw := g3 (i := 212) rfl rfl
theorem wd615 : Cond.instanceMethod ⟨"WaitingWritesModel", "makeTable", "(Z)I"⟩ ∈ gw := g3 (i := 214) rfl rfl
theorem wd616 : Cond.selects "WaitingWritesModel" ⟨"WaitingWritesModel", "makeTable", "(Z)I"⟩ ⟨"WaitingWritesModel", "makeTable", "(Z)I"⟩ ∈ gw := gs (i := 35) rfl rfl
theorem wd617 : Cond.methodLink "WaitingWritesModel" 196 ⟨"WaitingWritesModel", "take", "(IZ)V"⟩ ∈ gw := g3 (i := 220) rfl rfl
theorem wd618 : Cond.instanceMethod ⟨"WaitingWritesModel", "take", "(IZ)V"⟩ ∈ gw := g3 (i := 222) rfl rfl
theorem wd619 : Cond.selects "WaitingWritesModel" ⟨"WaitingWritesModel", "take", "(IZ)V"⟩ ⟨"WaitingWritesModel", "take", "(IZ)V"⟩ ∈ gw := gs (i := 37) rfl rfl
theorem wd620 : Cond.methodLink "WaitingWritesModel" 200 ⟨"WaitingWritesModel", "makeRecord", "()I"⟩ ∈ gw := g3 (i := 224) rfl rfl
theorem wd621 : Cond.instanceMethod ⟨"WaitingWritesModel", "makeRecord", "()I"⟩ ∈ gw := g3 (i := 226) rfl rfl
theorem wd622 : Cond.selects "WaitingWritesModel" ⟨"WaitingWritesModel", "makeRecord", "()I"⟩ ⟨"WaitingWritesModel", "makeRecord", "()I"⟩ ∈ gw := gs (i := 38) rfl rfl
theorem wd623 : Cond.fieldLink "WaitingWritesModel" 177 "WaitingWritesModel" "first" "I" ∈ gw := g3 (i := 34) rfl rfl
theorem wd624 : Cond.fieldLink "WaitingWritesModel" 180 "WaitingWritesModel" "last" "I" ∈ gw := g3 (i := 35) rfl rfl
theorem wd625 : Cond.methodLink "WaitingWritesModel" 183 ⟨"WaitingWritesModel", "needsChunk", "(II)V"⟩ ∈ gw := g3 (i := 216) rfl rfl
theorem wd626 : Cond.instanceMethod ⟨"WaitingWritesModel", "needsChunk", "(II)V"⟩ ∈ gw := g3 (i := 218) rfl rfl
theorem wd627 : Cond.selects "WaitingWritesModel" ⟨"WaitingWritesModel", "needsChunk", "(II)V"⟩ ⟨"WaitingWritesModel", "needsChunk", "(II)V"⟩ ∈ gw := gs (i := 36) rfl rfl
theorem wd628 : Cond.fieldLink "WaitingWritesModel" 186 "WaitingWritesModel" "latest" "I" ∈ gw := g3 (i := 7) rfl rfl
theorem wd629 : Cond.fieldLink "WaitingWritesModel" 203 "WaitingWritesModel" "movedMany" "I" ∈ gw := g3 (i := 32) rfl rfl
theorem wd630 : Cond.methodLink "WaitingWritesModel" 206 ⟨"WaitingWritesModel", "isTable", "(I)Z"⟩ ∈ gw := g3 (i := 232) rfl rfl
theorem wd631 : Cond.instanceMethod ⟨"WaitingWritesModel", "isTable", "(I)Z"⟩ ∈ gw := g3 (i := 234) rfl rfl
theorem wd632 : Cond.selects "WaitingWritesModel" ⟨"WaitingWritesModel", "isTable", "(I)Z"⟩ ⟨"WaitingWritesModel", "isTable", "(I)Z"⟩ ∈ gw := gs (i := 39) rfl rfl
theorem wd633 : Cond.methodLink "WaitingWritesModel" 209 ⟨"WaitingWritesModel", "keyAt", "(I)I"⟩ ∈ gw := g3 (i := 236) rfl rfl
theorem wd634 : Cond.instanceMethod ⟨"WaitingWritesModel", "keyAt", "(I)I"⟩ ∈ gw := g3 (i := 238) rfl rfl
theorem wd635 : Cond.selects "WaitingWritesModel" ⟨"WaitingWritesModel", "keyAt", "(I)I"⟩ ⟨"WaitingWritesModel", "keyAt", "(I)I"⟩ ∈ gw := gs (i := 40) rfl rfl
theorem wd636 : Cond.methodLink "WaitingWritesModel" 212 ⟨"WaitingWritesModel", "latestSlot", "()I"⟩ ∈ gw := g4 (i := 4) rfl rfl
theorem wd637 : Cond.instanceMethod ⟨"WaitingWritesModel", "latestSlot", "()I"⟩ ∈ gw := g4 (i := 6) rfl rfl
theorem wd638 : Cond.selects "WaitingWritesModel" ⟨"WaitingWritesModel", "latestSlot", "()I"⟩ ⟨"WaitingWritesModel", "latestSlot", "()I"⟩ ∈ gw := gs (i := 41) rfl rfl
theorem wd639 : Cond.methodLink "WaitingWritesModel" 215 ⟨"WaitingWritesModel", "left", "(I)I"⟩ ∈ gw := g4 (i := 12) rfl rfl
theorem wd640 : Cond.instanceMethod ⟨"WaitingWritesModel", "left", "(I)I"⟩ ∈ gw := g4 (i := 14) rfl rfl
theorem wd641 : Cond.selects "WaitingWritesModel" ⟨"WaitingWritesModel", "left", "(I)I"⟩ ⟨"WaitingWritesModel", "left", "(I)I"⟩ ∈ gw := gs (i := 42) rfl rfl
theorem wd642 : Cond.methodLink "WaitingWritesModel" 218 ⟨"WaitingWritesModel", "issued", "(I)I"⟩ ∈ gw := g4 (i := 20) rfl rfl
theorem wd643 : Cond.instanceMethod ⟨"WaitingWritesModel", "issued", "(I)I"⟩ ∈ gw := g4 (i := 22) rfl rfl
theorem wd644 : Cond.selects "WaitingWritesModel" ⟨"WaitingWritesModel", "issued", "(I)I"⟩ ⟨"WaitingWritesModel", "issued", "(I)I"⟩ ∈ gw := gs (i := 44) rfl rfl
theorem wd645 : Cond.methodLink "WaitingWritesModel" 124 ⟨"WaitingWritesModel", "isWaiting", "(I)Z"⟩ ∈ gw := g4 (i := 16) rfl rfl
theorem wd646 : Cond.instanceMethod ⟨"WaitingWritesModel", "isWaiting", "(I)Z"⟩ ∈ gw := g4 (i := 18) rfl rfl
theorem wd647 : Cond.selects "WaitingWritesModel" ⟨"WaitingWritesModel", "isWaiting", "(I)Z"⟩ ⟨"WaitingWritesModel", "isWaiting", "(I)Z"⟩ ∈ gw := gs (i := 43) rfl rfl
theorem wd648 : Cond.initialized "java/util/Arrays" ∈ gw := g0 (i := 10) rfl rfl
theorem mm_max : Cond.code Lib.Math.max.name Lib.Math.max.code 2 (some .int) ∈ gw := g0 (i := 205) rfl rfl
theorem mm_min : Cond.code Lib.Math.min.name Lib.Math.min.code 2 (some .int) ∈ gw := g1 (i := 62) rfl rfl
theorem oi_code : Cond.code Lib.objectInit ⟨#[0xb1]⟩ 1 none ∈ gw := g0 (i := 22) rfl rfl
theorem mok1 : mOK 1 0 := ⟨by decide +kernel, by decide, g0 (i := 19) rfl rfl, wd2, ⟨by decide +kernel, by decide +kernel⟩, by decide +kernel, rfl, fun _ => rfl⟩
theorem mok3 : mOK 3 0 := ⟨by decide +kernel, by decide, g0 (i := 27) rfl rfl, wd122, ⟨by decide +kernel, by decide +kernel⟩, by decide +kernel, rfl, fun _ => rfl⟩
theorem mok4 : mOK 4 5 := ⟨by decide +kernel, by decide, g0 (i := 34) rfl rfl, wd172, ⟨by decide +kernel, by decide +kernel⟩, by decide +kernel, rfl, fun _ => rfl⟩
theorem mok5 : mOK 5 0 := ⟨by decide +kernel, by decide, g0 (i := 68) rfl rfl, wd128, ⟨by decide +kernel, by decide +kernel⟩, by decide +kernel, rfl, fun _ => rfl⟩
theorem mok6 : mOK 6 1 := ⟨by decide +kernel, by decide, g0 (i := 75) rfl rfl, wd185, ⟨by decide +kernel, by decide +kernel⟩, by decide +kernel, rfl, fun _ => rfl⟩
theorem mok7 : mOK 7 0 := ⟨by decide +kernel, by decide, g0 (i := 121) rfl rfl, wd134, ⟨by decide +kernel, by decide +kernel⟩, by decide +kernel, rfl, fun _ => rfl⟩
theorem mok8 : mOK 8 0 := ⟨by decide +kernel, by decide, g0 (i := 138) rfl rfl, wd139, ⟨by decide +kernel, by decide +kernel⟩, by decide +kernel, rfl, fun _ => rfl⟩
theorem mok9 : mOK 9 0 := ⟨by decide +kernel, by decide, g0 (i := 153) rfl rfl, wd145, ⟨by decide +kernel, by decide +kernel⟩, by decide +kernel, rfl, fun _ => rfl⟩
theorem mok10 : mOK 10 0 := ⟨by decide +kernel, by decide, g0 (i := 159) rfl rfl, wd199, ⟨by decide +kernel, by decide +kernel⟩, by decide +kernel, rfl, fun _ => rfl⟩
theorem mok11 : mOK 11 0 := ⟨by decide +kernel, by decide, g0 (i := 164) rfl rfl, wd199, ⟨by decide +kernel, by decide +kernel⟩, by decide +kernel, rfl, fun h => by cases h⟩
theorem mok12 : mOK 12 2 := ⟨by decide +kernel, by decide, g0 (i := 167) rfl rfl, wd648, ⟨by decide +kernel, by decide +kernel⟩, by decide +kernel, rfl, fun h => by cases h⟩
theorem mok13 : mOK 13 1 := ⟨by decide +kernel, by decide, g0 (i := 201) rfl rfl, wd151, ⟨by decide +kernel, by decide +kernel⟩, by decide +kernel, rfl, fun _ => rfl⟩
theorem mok15 : mOK 15 0 := ⟨by decide +kernel, by decide, g0 (i := 217) rfl rfl, wd2, ⟨by decide +kernel, by decide +kernel⟩, by decide +kernel, rfl, fun h => by cases h⟩
theorem mok16 : mOK 16 0 := ⟨by decide +kernel, by decide, g0 (i := 221) rfl rfl, wd122, ⟨by decide +kernel, by decide +kernel⟩, by decide +kernel, rfl, fun h => by cases h⟩
theorem mok17 : mOK 17 1 := ⟨by decide +kernel, by decide, g0 (i := 225) rfl rfl, wd139, ⟨by decide +kernel, by decide +kernel⟩, by decide +kernel, rfl, fun h => by cases h⟩
theorem mok18 : mOK 18 1 := ⟨by decide +kernel, by decide, g0 (i := 229) rfl rfl, wd172, ⟨by decide +kernel, by decide +kernel⟩, by decide +kernel, rfl, fun h => by cases h⟩
theorem mok19 : mOK 19 0 := ⟨by decide +kernel, by decide, g0 (i := 234) rfl rfl, wd145, ⟨by decide +kernel, by decide +kernel⟩, by decide +kernel, rfl, fun h => by cases h⟩
theorem mok20 : mOK 20 0 := ⟨by decide +kernel, by decide, g0 (i := 239) rfl rfl, wd172, ⟨by decide +kernel, by decide +kernel⟩, by decide +kernel, rfl, fun h => by cases h⟩
theorem mok21 : mOK 21 1 := ⟨by decide +kernel, by decide, g1 (i := 3) rfl rfl, wd172, ⟨by decide +kernel, by decide +kernel⟩, by decide +kernel, rfl, fun h => by cases h⟩
theorem mok22 : mOK 22 1 := ⟨by decide +kernel, by decide, g1 (i := 7) rfl rfl, wd2, ⟨by decide +kernel, by decide +kernel⟩, by decide +kernel, rfl, fun h => by cases h⟩
theorem mok23 : mOK 23 1 := ⟨by decide +kernel, by decide, g1 (i := 11) rfl rfl, wd2, ⟨by decide +kernel, by decide +kernel⟩, by decide +kernel, rfl, fun h => by cases h⟩
theorem mok24 : mOK 24 1 := ⟨by decide +kernel, by decide, g1 (i := 15) rfl rfl, wd2, ⟨by decide +kernel, by decide +kernel⟩, by decide +kernel, rfl, fun h => by cases h⟩
theorem mok25 : mOK 25 1 := ⟨by decide +kernel, by decide, g1 (i := 19) rfl rfl, wd128, ⟨by decide +kernel, by decide +kernel⟩, by decide +kernel, rfl, fun h => by cases h⟩
theorem mok27 : mOK 27 1 := ⟨by decide +kernel, by decide, g1 (i := 23) rfl rfl, wd185, ⟨by decide +kernel, by decide +kernel⟩, by decide +kernel, rfl, fun h => by cases h⟩
theorem mok28 : mOK 28 2 := ⟨by decide +kernel, by decide, g1 (i := 27) rfl rfl, wd122, ⟨by decide +kernel, by decide +kernel⟩, by decide +kernel, rfl, fun h => by cases h⟩
theorem mok29 : mOK 29 1 := ⟨by decide +kernel, by decide, g1 (i := 31) rfl rfl, wd2, ⟨by decide +kernel, by decide +kernel⟩, by decide +kernel, rfl, fun h => by cases h⟩
theorem mok30 : mOK 30 1 := ⟨by decide +kernel, by decide, g1 (i := 35) rfl rfl, wd134, ⟨by decide +kernel, by decide +kernel⟩, by decide +kernel, rfl, fun h => by cases h⟩
theorem mok31 : mOK 31 2 := ⟨by decide +kernel, by decide, g1 (i := 39) rfl rfl, wd2, ⟨by decide +kernel, by decide +kernel⟩, by decide +kernel, rfl, fun h => by cases h⟩
theorem mok32 : mOK 32 0 := ⟨by decide +kernel, by decide, g1 (i := 43) rfl rfl, wd151, ⟨by decide +kernel, by decide +kernel⟩, by decide +kernel, rfl, fun h => by cases h⟩
theorem mok33 : mOK 33 1 := ⟨by decide +kernel, by decide, g1 (i := 47) rfl rfl, wd151, ⟨by decide +kernel, by decide +kernel⟩, by decide +kernel, rfl, fun h => by cases h⟩
theorem mok34 : mOK 34 2 := ⟨by decide +kernel, by decide, g1 (i := 51) rfl rfl, wd145, ⟨by decide +kernel, by decide +kernel⟩, by decide +kernel, rfl, fun h => by cases h⟩
theorem mok35 : mOK 35 1 := ⟨by decide +kernel, by decide, g1 (i := 55) rfl rfl, wd199, ⟨by decide +kernel, by decide +kernel⟩, by decide +kernel, rfl, fun h => by cases h⟩
theorem mok36 : mOK 36 1 := ⟨by decide +kernel, by decide, g1 (i := 59) rfl rfl, wd151, ⟨by decide +kernel, by decide +kernel⟩, by decide +kernel, rfl, fun h => by cases h⟩
theorem mok38 : mOK 38 2 := ⟨by decide +kernel, by decide, g1 (i := 66) rfl rfl, wd199, ⟨by decide +kernel, by decide +kernel⟩, by decide +kernel, rfl, fun h => by cases h⟩
theorem mok39 : mOK 39 1 := ⟨by decide +kernel, by decide, g1 (i := 69) rfl rfl, wd2, ⟨by decide +kernel, by decide +kernel⟩, by decide +kernel, rfl, fun h => by cases h⟩
theorem mok40 : mOK 40 1 := ⟨by decide +kernel, by decide, g1 (i := 72) rfl rfl, wd2, ⟨by decide +kernel, by decide +kernel⟩, by decide +kernel, rfl, fun h => by cases h⟩
theorem mok41 : mOK 41 5 := ⟨by decide +kernel, by decide, g1 (i := 135) rfl rfl, wd2, ⟨by decide +kernel, by decide +kernel⟩, by decide +kernel, rfl, fun h => by cases h⟩
theorem mok42 : mOK 42 1 := ⟨by decide +kernel, by decide, g1 (i := 139) rfl rfl, wd151, ⟨by decide +kernel, by decide +kernel⟩, by decide +kernel, rfl, fun h => by cases h⟩
theorem mok43 : mOK 43 1 := ⟨by decide +kernel, by decide, g1 (i := 143) rfl rfl, wd151, ⟨by decide +kernel, by decide +kernel⟩, by decide +kernel, rfl, fun h => by cases h⟩
theorem mok44 : mOK 44 2 := ⟨by decide +kernel, by decide, g1 (i := 148) rfl rfl, wd2, ⟨by decide +kernel, by decide +kernel⟩, by decide +kernel, rfl, fun h => by cases h⟩
theorem mok45 : mOK 45 2 := ⟨by decide +kernel, by decide, g1 (i := 153) rfl rfl, wd151, ⟨by decide +kernel, by decide +kernel⟩, by decide +kernel, rfl, fun h => by cases h⟩
theorem mok46 : mOK 46 1 := ⟨by decide +kernel, by decide, g1 (i := 157) rfl rfl, wd139, ⟨by decide +kernel, by decide +kernel⟩, by decide +kernel, rfl, fun h => by cases h⟩
theorem mok47 : mOK 47 2 := ⟨by decide +kernel, by decide, g1 (i := 161) rfl rfl, wd139, ⟨by decide +kernel, by decide +kernel⟩, by decide +kernel, rfl, fun h => by cases h⟩
theorem mok48 : mOK 48 0 := ⟨by decide +kernel, by decide, g1 (i := 166) rfl rfl, wd139, ⟨by decide +kernel, by decide +kernel⟩, by decide +kernel, rfl, fun h => by cases h⟩
theorem mok49 : mOK 49 1 := ⟨by decide +kernel, by decide, g1 (i := 170) rfl rfl, wd139, ⟨by decide +kernel, by decide +kernel⟩, by decide +kernel, rfl, fun h => by cases h⟩
theorem mok50 : mOK 50 0 := ⟨by decide +kernel, by decide, g1 (i := 174) rfl rfl, wd139, ⟨by decide +kernel, by decide +kernel⟩, by decide +kernel, rfl, fun h => by cases h⟩
theorem mok51 : mOK 51 1 := ⟨by decide +kernel, by decide, g1 (i := 178) rfl rfl, wd128, ⟨by decide +kernel, by decide +kernel⟩, by decide +kernel, rfl, fun h => by cases h⟩
theorem mok52 : mOK 52 3 := ⟨by decide +kernel, by decide, g1 (i := 182) rfl rfl, wd2, ⟨by decide +kernel, by decide +kernel⟩, by decide +kernel, rfl, fun h => by cases h⟩
theorem mok53 : mOK 53 2 := ⟨by decide +kernel, by decide, g1 (i := 186) rfl rfl, wd2, ⟨by decide +kernel, by decide +kernel⟩, by decide +kernel, rfl, fun h => by cases h⟩
theorem mok54 : mOK 54 1 := ⟨by decide +kernel, by decide, g1 (i := 191) rfl rfl, wd128, ⟨by decide +kernel, by decide +kernel⟩, by decide +kernel, rfl, fun h => by cases h⟩
theorem mok55 : mOK 55 1 := ⟨by decide +kernel, by decide, g1 (i := 195) rfl rfl, wd128, ⟨by decide +kernel, by decide +kernel⟩, by decide +kernel, rfl, fun h => by cases h⟩
theorem mok56 : mOK 56 2 := ⟨by decide +kernel, by decide, g1 (i := 199) rfl rfl, wd185, ⟨by decide +kernel, by decide +kernel⟩, by decide +kernel, rfl, fun h => by cases h⟩
theorem mok57 : mOK 57 2 := ⟨by decide +kernel, by decide, g1 (i := 203) rfl rfl, wd185, ⟨by decide +kernel, by decide +kernel⟩, by decide +kernel, rfl, fun h => by cases h⟩
theorem mok58 : mOK 58 1 := ⟨by decide +kernel, by decide, g1 (i := 209) rfl rfl, wd185, ⟨by decide +kernel, by decide +kernel⟩, by decide +kernel, rfl, fun h => by cases h⟩
theorem mok59 : mOK 59 1 := ⟨by decide +kernel, by decide, g1 (i := 214) rfl rfl, wd2, ⟨by decide +kernel, by decide +kernel⟩, by decide +kernel, rfl, fun h => by cases h⟩
theorem mok60 : mOK 60 1 := ⟨by decide +kernel, by decide, g1 (i := 218) rfl rfl, wd145, ⟨by decide +kernel, by decide +kernel⟩, by decide +kernel, rfl, fun h => by cases h⟩
theorem mok61 : mOK 61 1 := ⟨by decide +kernel, by decide, g1 (i := 222) rfl rfl, wd199, ⟨by decide +kernel, by decide +kernel⟩, by decide +kernel, rfl, fun h => by cases h⟩
theorem mok62 : mOK 62 1 := ⟨by decide +kernel, by decide, g1 (i := 226) rfl rfl, wd2, ⟨by decide +kernel, by decide +kernel⟩, by decide +kernel, rfl, fun h => by cases h⟩
theorem mok63 : mOK 63 1 := ⟨by decide +kernel, by decide, g1 (i := 230) rfl rfl, wd2, ⟨by decide +kernel, by decide +kernel⟩, by decide +kernel, rfl, fun h => by cases h⟩
theorem mok64 : mOK 64 1 := ⟨by decide +kernel, by decide, g1 (i := 235) rfl rfl, wd2, ⟨by decide +kernel, by decide +kernel⟩, by decide +kernel, rfl, fun h => by cases h⟩
theorem mok65 : mOK 65 0 := ⟨by decide +kernel, by decide, g1 (i := 239) rfl rfl, wd2, ⟨by decide +kernel, by decide +kernel⟩, by decide +kernel, rfl, fun h => by cases h⟩
theorem mok66 : mOK 66 0 := ⟨by decide +kernel, by decide, g2 (i := 3) rfl rfl, wd145, ⟨by decide +kernel, by decide +kernel⟩, by decide +kernel, rfl, fun h => by cases h⟩
theorem mok67 : mOK 67 1 := ⟨by decide +kernel, by decide, g2 (i := 7) rfl rfl, wd2, ⟨by decide +kernel, by decide +kernel⟩, by decide +kernel, rfl, fun h => by cases h⟩
theorem mok68 : mOK 68 1 := ⟨by decide +kernel, by decide, g2 (i := 11) rfl rfl, wd2, ⟨by decide +kernel, by decide +kernel⟩, by decide +kernel, rfl, fun h => by cases h⟩
theorem mok69 : mOK 69 1 := ⟨by decide +kernel, by decide, g2 (i := 15) rfl rfl, wd145, ⟨by decide +kernel, by decide +kernel⟩, by decide +kernel, rfl, fun h => by cases h⟩
theorem mok70 : mOK 70 1 := ⟨by decide +kernel, by decide, g2 (i := 20) rfl rfl, wd199, ⟨by decide +kernel, by decide +kernel⟩, by decide +kernel, rfl, fun h => by cases h⟩
theorem mok71 : mOK 71 1 := ⟨by decide +kernel, by decide, g2 (i := 26) rfl rfl, wd2, ⟨by decide +kernel, by decide +kernel⟩, by decide +kernel, rfl, fun h => by cases h⟩
theorem mok72 : mOK 72 0 := ⟨by decide +kernel, by decide, g2 (i := 30) rfl rfl, wd2, ⟨by decide +kernel, by decide +kernel⟩, by decide +kernel, rfl, fun h => by cases h⟩
theorem mok73 : mOK 73 1 := ⟨by decide +kernel, by decide, g2 (i := 35) rfl rfl, wd2, ⟨by decide +kernel, by decide +kernel⟩, by decide +kernel, rfl, fun h => by cases h⟩
theorem mok74 : mOK 74 1 := ⟨by decide +kernel, by decide, g2 (i := 40) rfl rfl, wd128, ⟨by decide +kernel, by decide +kernel⟩, by decide +kernel, rfl, fun h => by cases h⟩
theorem mok75 : mOK 75 0 := ⟨by decide +kernel, by decide, g2 (i := 44) rfl rfl, wd185, ⟨by decide +kernel, by decide +kernel⟩, by decide +kernel, rfl, fun h => by cases h⟩
theorem mok76 : mOK 76 2 := ⟨by decide +kernel, by decide, g2 (i := 48) rfl rfl, wd128, ⟨by decide +kernel, by decide +kernel⟩, by decide +kernel, rfl, fun h => by cases h⟩
theorem mok77 : mOK 77 2 := ⟨by decide +kernel, by decide, g2 (i := 54) rfl rfl, wd145, ⟨by decide +kernel, by decide +kernel⟩, by decide +kernel, rfl, fun h => by cases h⟩
theorem mok78 : mOK 78 2 := ⟨by decide +kernel, by decide, g2 (i := 58) rfl rfl, wd2, ⟨by decide +kernel, by decide +kernel⟩, by decide +kernel, rfl, fun h => by cases h⟩
theorem mok79 : mOK 79 0 := ⟨by decide +kernel, by decide, g2 (i := 70) rfl rfl, wd145, ⟨by decide +kernel, by decide +kernel⟩, by decide +kernel, rfl, fun h => by cases h⟩
theorem mok80 : mOK 80 1 := ⟨by decide +kernel, by decide, g2 (i := 75) rfl rfl, wd145, ⟨by decide +kernel, by decide +kernel⟩, by decide +kernel, rfl, fun h => by cases h⟩
theorem mok81 : mOK 81 0 := ⟨by decide +kernel, by decide, g2 (i := 80) rfl rfl, wd172, ⟨by decide +kernel, by decide +kernel⟩, by decide +kernel, rfl, fun h => by cases h⟩
theorem mok82 : mOK 82 1 := ⟨by decide +kernel, by decide, g2 (i := 84) rfl rfl, wd185, ⟨by decide +kernel, by decide +kernel⟩, by decide +kernel, rfl, fun h => by cases h⟩
theorem mok83 : mOK 83 1 := ⟨by decide +kernel, by decide, g2 (i := 89) rfl rfl, wd2, ⟨by decide +kernel, by decide +kernel⟩, by decide +kernel, rfl, fun h => by cases h⟩
theorem mok84 : mOK 84 1 := ⟨by decide +kernel, by decide, g2 (i := 95) rfl rfl, wd2, ⟨by decide +kernel, by decide +kernel⟩, by decide +kernel, rfl, fun h => by cases h⟩
theorem mok85 : mOK 85 1 := ⟨by decide +kernel, by decide, g2 (i := 99) rfl rfl, wd145, ⟨by decide +kernel, by decide +kernel⟩, by decide +kernel, rfl, fun h => by cases h⟩
theorem mok86 : mOK 86 1 := ⟨by decide +kernel, by decide, g2 (i := 103) rfl rfl, wd145, ⟨by decide +kernel, by decide +kernel⟩, by decide +kernel, rfl, fun h => by cases h⟩
theorem mok87 : mOK 87 2 := ⟨by decide +kernel, by decide, g2 (i := 107) rfl rfl, wd2, ⟨by decide +kernel, by decide +kernel⟩, by decide +kernel, rfl, fun h => by cases h⟩
theorem mok88 : mOK 88 1 := ⟨by decide +kernel, by decide, g2 (i := 111) rfl rfl, wd2, ⟨by decide +kernel, by decide +kernel⟩, by decide +kernel, rfl, fun h => by cases h⟩
theorem mok89 : mOK 89 1 := ⟨by decide +kernel, by decide, g2 (i := 115) rfl rfl, wd139, ⟨by decide +kernel, by decide +kernel⟩, by decide +kernel, rfl, fun h => by cases h⟩
theorem mok90 : mOK 90 1 := ⟨by decide +kernel, by decide, g2 (i := 119) rfl rfl, wd2, ⟨by decide +kernel, by decide +kernel⟩, by decide +kernel, rfl, fun h => by cases h⟩
theorem mok91 : mOK 91 1 := ⟨by decide +kernel, by decide, g2 (i := 123) rfl rfl, wd2, ⟨by decide +kernel, by decide +kernel⟩, by decide +kernel, rfl, fun h => by cases h⟩
theorem mok92 : mOK 92 1 := ⟨by decide +kernel, by decide, g2 (i := 127) rfl rfl, wd2, ⟨by decide +kernel, by decide +kernel⟩, by decide +kernel, rfl, fun h => by cases h⟩
theorem mok93 : mOK 93 1 := ⟨by decide +kernel, by decide, g2 (i := 131) rfl rfl, wd128, ⟨by decide +kernel, by decide +kernel⟩, by decide +kernel, rfl, fun h => by cases h⟩
theorem mok94 : mOK 94 0 := ⟨by decide +kernel, by decide, g2 (i := 135) rfl rfl, wd185, ⟨by decide +kernel, by decide +kernel⟩, by decide +kernel, rfl, fun h => by cases h⟩
theorem mok96 : mOK 96 1 := ⟨by decide +kernel, by decide, g2 (i := 145) rfl rfl, wd122, ⟨by decide +kernel, by decide +kernel⟩, by decide +kernel, rfl, fun h => by cases h⟩
theorem mok97 : mOK 97 1 := ⟨by decide +kernel, by decide, g2 (i := 152) rfl rfl, wd128, ⟨by decide +kernel, by decide +kernel⟩, by decide +kernel, rfl, fun h => by cases h⟩
theorem mok98 : mOK 98 1 := ⟨by decide +kernel, by decide, g2 (i := 156) rfl rfl, wd185, ⟨by decide +kernel, by decide +kernel⟩, by decide +kernel, rfl, fun h => by cases h⟩
theorem mok99 : mOK 99 1 := ⟨by decide +kernel, by decide, g2 (i := 161) rfl rfl, wd2, ⟨by decide +kernel, by decide +kernel⟩, by decide +kernel, rfl, fun h => by cases h⟩
theorem mok100 : mOK 100 0 := ⟨by decide +kernel, by decide, g2 (i := 165) rfl rfl, wd2, ⟨by decide +kernel, by decide +kernel⟩, by decide +kernel, rfl, fun h => by cases h⟩
theorem mok101 : mOK 101 0 := ⟨by decide +kernel, by decide, g2 (i := 169) rfl rfl, wd128, ⟨by decide +kernel, by decide +kernel⟩, by decide +kernel, rfl, fun h => by cases h⟩
theorem mok102 : mOK 102 0 := ⟨by decide +kernel, by decide, g2 (i := 173) rfl rfl, wd134, ⟨by decide +kernel, by decide +kernel⟩, by decide +kernel, rfl, fun h => by cases h⟩
theorem mok103 : mOK 103 0 := ⟨by decide +kernel, by decide, g2 (i := 177) rfl rfl, wd2, ⟨by decide +kernel, by decide +kernel⟩, by decide +kernel, rfl, fun h => by cases h⟩
theorem mok104 : mOK 104 1 := ⟨by decide +kernel, by decide, g2 (i := 181) rfl rfl, wd2, ⟨by decide +kernel, by decide +kernel⟩, by decide +kernel, rfl, fun h => by cases h⟩
theorem mok105 : mOK 105 1 := ⟨by decide +kernel, by decide, g2 (i := 184) rfl rfl, wd2, ⟨by decide +kernel, by decide +kernel⟩, by decide +kernel, rfl, fun h => by cases h⟩
theorem mok106 : mOK 106 1 := ⟨by decide +kernel, by decide, g2 (i := 188) rfl rfl, wd2, ⟨by decide +kernel, by decide +kernel⟩, by decide +kernel, rfl, fun h => by cases h⟩
theorem mok107 : mOK 107 0 := ⟨by decide +kernel, by decide, g2 (i := 192) rfl rfl, wd128, ⟨by decide +kernel, by decide +kernel⟩, by decide +kernel, rfl, fun h => by cases h⟩
theorem mok108 : mOK 108 2 := ⟨by decide +kernel, by decide, g2 (i := 197) rfl rfl, wd2, ⟨by decide +kernel, by decide +kernel⟩, by decide +kernel, rfl, fun h => by cases h⟩
theorem mok109 : mOK 109 2 := ⟨by decide +kernel, by decide, g2 (i := 202) rfl rfl, wd2, ⟨by decide +kernel, by decide +kernel⟩, by decide +kernel, rfl, fun h => by cases h⟩
theorem mok110 : mOK 110 1 := ⟨by decide +kernel, by decide, g2 (i := 206) rfl rfl, wd2, ⟨by decide +kernel, by decide +kernel⟩, by decide +kernel, rfl, fun h => by cases h⟩
theorem mok111 : mOK 111 3 := ⟨by decide +kernel, by decide, g2 (i := 211) rfl rfl, wd2, ⟨by decide +kernel, by decide +kernel⟩, by decide +kernel, rfl, fun h => by cases h⟩
theorem mok112 : mOK 112 2 := ⟨by decide +kernel, by decide, g2 (i := 215) rfl rfl, wd2, ⟨by decide +kernel, by decide +kernel⟩, by decide +kernel, rfl, fun h => by cases h⟩
theorem mok113 : mOK 113 1 := ⟨by decide +kernel, by decide, g2 (i := 219) rfl rfl, wd122, ⟨by decide +kernel, by decide +kernel⟩, by decide +kernel, rfl, fun h => by cases h⟩
theorem mok114 : mOK 114 1 := ⟨by decide +kernel, by decide, g2 (i := 223) rfl rfl, wd172, ⟨by decide +kernel, by decide +kernel⟩, by decide +kernel, rfl, fun h => by cases h⟩
theorem mok115 : mOK 115 1 := ⟨by decide +kernel, by decide, g2 (i := 229) rfl rfl, wd172, ⟨by decide +kernel, by decide +kernel⟩, by decide +kernel, rfl, fun h => by cases h⟩
theorem mok116 : mOK 116 0 := ⟨by decide +kernel, by decide, g2 (i := 235) rfl rfl, wd7, ⟨by decide +kernel, by decide +kernel⟩, by decide +kernel, rfl, fun _ => rfl⟩
theorem mok117 : mOK 117 5 := ⟨by decide +kernel, by decide, g3 (i := 121) rfl rfl, wd7, ⟨by decide +kernel, by decide +kernel⟩, by decide +kernel, rfl, fun h => by cases h⟩
theorem mok118 : mOK 118 2 := ⟨by decide +kernel, by decide, g3 (i := 125) rfl rfl, wd7, ⟨by decide +kernel, by decide +kernel⟩, by decide +kernel, rfl, fun h => by cases h⟩
theorem mok119 : mOK 119 1 := ⟨by decide +kernel, by decide, g3 (i := 128) rfl rfl, wd7, ⟨by decide +kernel, by decide +kernel⟩, by decide +kernel, rfl, fun h => by cases h⟩
theorem mok120 : mOK 120 0 := ⟨by decide +kernel, by decide, g3 (i := 132) rfl rfl, wd7, ⟨by decide +kernel, by decide +kernel⟩, by decide +kernel, rfl, fun h => by cases h⟩
theorem mok121 : mOK 121 4 := ⟨by decide +kernel, by decide, g3 (i := 136) rfl rfl, wd7, ⟨by decide +kernel, by decide +kernel⟩, by decide +kernel, rfl, fun h => by cases h⟩
theorem mok122 : mOK 122 1 := ⟨by decide +kernel, by decide, g3 (i := 139) rfl rfl, wd7, ⟨by decide +kernel, by decide +kernel⟩, by decide +kernel, rfl, fun h => by cases h⟩
theorem mok123 : mOK 123 0 := ⟨by decide +kernel, by decide, g3 (i := 143) rfl rfl, wd7, ⟨by decide +kernel, by decide +kernel⟩, by decide +kernel, rfl, fun h => by cases h⟩
theorem mok124 : mOK 124 1 := ⟨by decide +kernel, by decide, g3 (i := 147) rfl rfl, wd7, ⟨by decide +kernel, by decide +kernel⟩, by decide +kernel, rfl, fun h => by cases h⟩
theorem mok125 : mOK 125 0 := ⟨by decide +kernel, by decide, g3 (i := 151) rfl rfl, wd7, ⟨by decide +kernel, by decide +kernel⟩, by decide +kernel, rfl, fun h => by cases h⟩
theorem mok126 : mOK 126 2 := ⟨by decide +kernel, by decide, g3 (i := 155) rfl rfl, wd7, ⟨by decide +kernel, by decide +kernel⟩, by decide +kernel, rfl, fun h => by cases h⟩
theorem mok127 : mOK 127 1 := ⟨by decide +kernel, by decide, g3 (i := 159) rfl rfl, wd7, ⟨by decide +kernel, by decide +kernel⟩, by decide +kernel, rfl, fun h => by cases h⟩
theorem mok128 : mOK 128 1 := ⟨by decide +kernel, by decide, g3 (i := 163) rfl rfl, wd7, ⟨by decide +kernel, by decide +kernel⟩, by decide +kernel, rfl, fun h => by cases h⟩
theorem mok129 : mOK 129 1 := ⟨by decide +kernel, by decide, g3 (i := 167) rfl rfl, wd7, ⟨by decide +kernel, by decide +kernel⟩, by decide +kernel, rfl, fun h => by cases h⟩
theorem mok130 : mOK 130 1 := ⟨by decide +kernel, by decide, g3 (i := 171) rfl rfl, wd7, ⟨by decide +kernel, by decide +kernel⟩, by decide +kernel, rfl, fun h => by cases h⟩
theorem mok131 : mOK 131 1 := ⟨by decide +kernel, by decide, g3 (i := 175) rfl rfl, wd7, ⟨by decide +kernel, by decide +kernel⟩, by decide +kernel, rfl, fun h => by cases h⟩
theorem mok132 : mOK 132 2 := ⟨by decide +kernel, by decide, g3 (i := 179) rfl rfl, wd7, ⟨by decide +kernel, by decide +kernel⟩, by decide +kernel, rfl, fun h => by cases h⟩
theorem mok133 : mOK 133 1 := ⟨by decide +kernel, by decide, g3 (i := 183) rfl rfl, wd7, ⟨by decide +kernel, by decide +kernel⟩, by decide +kernel, rfl, fun h => by cases h⟩
theorem mok134 : mOK 134 2 := ⟨by decide +kernel, by decide, g3 (i := 187) rfl rfl, wd7, ⟨by decide +kernel, by decide +kernel⟩, by decide +kernel, rfl, fun h => by cases h⟩
theorem mok135 : mOK 135 1 := ⟨by decide +kernel, by decide, g3 (i := 191) rfl rfl, wd7, ⟨by decide +kernel, by decide +kernel⟩, by decide +kernel, rfl, fun h => by cases h⟩
theorem mok136 : mOK 136 1 := ⟨by decide +kernel, by decide, g3 (i := 195) rfl rfl, wd7, ⟨by decide +kernel, by decide +kernel⟩, by decide +kernel, rfl, fun h => by cases h⟩
theorem mok137 : mOK 137 1 := ⟨by decide +kernel, by decide, g3 (i := 199) rfl rfl, wd7, ⟨by decide +kernel, by decide +kernel⟩, by decide +kernel, rfl, fun h => by cases h⟩
theorem mok138 : mOK 138 1 := ⟨by decide +kernel, by decide, g3 (i := 203) rfl rfl, wd7, ⟨by decide +kernel, by decide +kernel⟩, by decide +kernel, rfl, fun h => by cases h⟩
theorem mok139 : mOK 139 0 := ⟨by decide +kernel, by decide, g3 (i := 207) rfl rfl, wd7, ⟨by decide +kernel, by decide +kernel⟩, by decide +kernel, rfl, fun h => by cases h⟩
theorem mok140 : mOK 140 0 := ⟨by decide +kernel, by decide, g3 (i := 211) rfl rfl, wd7, ⟨by decide +kernel, by decide +kernel⟩, by decide +kernel, rfl, fun h => by cases h⟩
theorem mok141 : mOK 141 1 := ⟨by decide +kernel, by decide, g3 (i := 215) rfl rfl, wd7, ⟨by decide +kernel, by decide +kernel⟩, by decide +kernel, rfl, fun h => by cases h⟩
theorem mok142 : mOK 142 2 := ⟨by decide +kernel, by decide, g3 (i := 219) rfl rfl, wd7, ⟨by decide +kernel, by decide +kernel⟩, by decide +kernel, rfl, fun h => by cases h⟩
theorem mok143 : mOK 143 2 := ⟨by decide +kernel, by decide, g3 (i := 223) rfl rfl, wd7, ⟨by decide +kernel, by decide +kernel⟩, by decide +kernel, rfl, fun h => by cases h⟩
theorem mok144 : mOK 144 0 := ⟨by decide +kernel, by decide, g3 (i := 227) rfl rfl, wd7, ⟨by decide +kernel, by decide +kernel⟩, by decide +kernel, rfl, fun h => by cases h⟩
theorem mok145 : mOK 145 1 := ⟨by decide +kernel, by decide, g3 (i := 231) rfl rfl, wd7, ⟨by decide +kernel, by decide +kernel⟩, by decide +kernel, rfl, fun h => by cases h⟩
theorem mok146 : mOK 146 1 := ⟨by decide +kernel, by decide, g3 (i := 235) rfl rfl, wd7, ⟨by decide +kernel, by decide +kernel⟩, by decide +kernel, rfl, fun h => by cases h⟩
theorem mok147 : mOK 147 1 := ⟨by decide +kernel, by decide, g3 (i := 239) rfl rfl, wd7, ⟨by decide +kernel, by decide +kernel⟩, by decide +kernel, rfl, fun h => by cases h⟩
theorem mok148 : mOK 148 1 := ⟨by decide +kernel, by decide, g4 (i := 3) rfl rfl, wd7, ⟨by decide +kernel, by decide +kernel⟩, by decide +kernel, rfl, fun h => by cases h⟩
theorem mok149 : mOK 149 0 := ⟨by decide +kernel, by decide, g4 (i := 7) rfl rfl, wd7, ⟨by decide +kernel, by decide +kernel⟩, by decide +kernel, rfl, fun h => by cases h⟩
theorem mok150 : mOK 150 1 := ⟨by decide +kernel, by decide, g4 (i := 11) rfl rfl, wd7, ⟨by decide +kernel, by decide +kernel⟩, by decide +kernel, rfl, fun h => by cases h⟩
theorem mok151 : mOK 151 1 := ⟨by decide +kernel, by decide, g4 (i := 15) rfl rfl, wd7, ⟨by decide +kernel, by decide +kernel⟩, by decide +kernel, rfl, fun h => by cases h⟩
theorem mok152 : mOK 152 1 := ⟨by decide +kernel, by decide, g4 (i := 19) rfl rfl, wd7, ⟨by decide +kernel, by decide +kernel⟩, by decide +kernel, rfl, fun h => by cases h⟩
theorem mok153 : mOK 153 1 := ⟨by decide +kernel, by decide, g4 (i := 23) rfl rfl, wd7, ⟨by decide +kernel, by decide +kernel⟩, by decide +kernel, rfl, fun h => by cases h⟩
theorem mok154 : mOK 154 1 := ⟨by decide +kernel, by decide, g4 (i := 27) rfl rfl, wd7, ⟨by decide +kernel, by decide +kernel⟩, by decide +kernel, rfl, fun h => by cases h⟩
theorem mok155 : mOK 155 0 := ⟨by decide +kernel, by decide, g4 (i := 31) rfl rfl, wd7, ⟨by decide +kernel, by decide +kernel⟩, by decide +kernel, rfl, fun h => by cases h⟩
theorem mok156 : mOK 156 0 := ⟨by decide +kernel, by decide, g4 (i := 35) rfl rfl, wd7, ⟨by decide +kernel, by decide +kernel⟩, by decide +kernel, rfl, fun h => by cases h⟩
theorem mok157 : mOK 157 1 := ⟨by decide +kernel, by decide, g4 (i := 39) rfl rfl, wd7, ⟨by decide +kernel, by decide +kernel⟩, by decide +kernel, rfl, fun h => by cases h⟩
theorem mok158 : mOK 158 2 := ⟨by decide +kernel, by decide, g4 (i := 43) rfl rfl, wd7, ⟨by decide +kernel, by decide +kernel⟩, by decide +kernel, rfl, fun h => by cases h⟩
theorem mok159 : mOK 159 2 := ⟨by decide +kernel, by decide, g4 (i := 47) rfl rfl, wd7, ⟨by decide +kernel, by decide +kernel⟩, by decide +kernel, rfl, fun h => by cases h⟩
theorem mok160 : mOK 160 3 := ⟨by decide +kernel, by decide, g4 (i := 51) rfl rfl, wd7, ⟨by decide +kernel, by decide +kernel⟩, by decide +kernel, rfl, fun h => by cases h⟩
theorem mok161 : mOK 161 2 := ⟨by decide +kernel, by decide, g4 (i := 55) rfl rfl, wd7, ⟨by decide +kernel, by decide +kernel⟩, by decide +kernel, rfl, fun h => by cases h⟩
