theorem zz_t1 : 1 + 1 = 2 := rfl
#print Jvm.ClassFile.Instr
