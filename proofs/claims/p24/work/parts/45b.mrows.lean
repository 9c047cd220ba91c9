theorem mk_v52 {C J : Jv} (h : MK C J) : J 79 52 = C 79 52 := congrArg (fun q => q.2.1) h.1
theorem mk_v69 {C J : Jv} (h : MK C J) : J 79 69 = C 79 69 := congrArg (fun q => q.2.2.2.1) h.1
theorem mi_r80 {B I : Iv} (h : MI B I) : I 80 = B 80 := congrArg (fun q => q.2.1) h.1
theorem mi_r91 {B I : Iv} (h : MI B I) : I 91 = B 91 := congrArg (fun q => q.2.2.1) h.1
theorem mi_r94 {B I : Iv} (h : MI B I) : I 94 = B 94 := congrArg (fun q => q.2.2.2.1) h.1
theorem mi_r95 {B I : Iv} (h : MI B I) : I 95 = B 95 := congrArg (fun q => q.2.2.2.2.1) h.1
theorem mi_r98 {B I : Iv} (h : MI B I) : I 98 = B 98 := congrArg (fun q => q.2.2.2.2.2.1) h.1
