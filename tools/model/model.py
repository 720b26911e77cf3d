"""A second WireHouse, written from ../../../shared/DOC.md alone and in another way than the Java class.

It holds messages as trees of Python objects (Rec), reads texts token by token and throws Fault. Where the
two programs disagree, one of them misreads the document. runs.py makes runs of calls and compares them.
"""
import struct
BAD, NO, FULL = (-1, -2, -3)
M64 = (1 << 64) - 1
WORDS = set('enum record service one keep many maybe map call cell in out fail bool int uint zint fix long ulong zlong fixlong text bytes true false'.split())
KN = 'bool int uint zint fix long ulong zlong fixlong text bytes'.split()
BITS = {0: 1, 1: 32, 2: 32, 3: 32, 4: 32, 5: 64, 6: 64, 7: 64, 8: 64, 11: 16}
RANGE = {0: (0, 1), 1: (-2 ** 31, 2 ** 31 - 1), 2: (0, 2 ** 32 - 1), 3: (-2 ** 31, 2 ** 31 - 1), 4: (0, 2 ** 32 - 1), 5: (-2 ** 63, 2 ** 63 - 1), 6: (0, 2 ** 64 - 1), 7: (-2 ** 63, 2 ** 63 - 1), 8: (0, 2 ** 64 - 1), 11: (-32768, 32767)}
WIRE = {0: 0, 1: 0, 2: 0, 3: 0, 5: 0, 6: 0, 7: 0, 11: 0, 8: 1, 4: 5, 9: 2, 10: 2, 12: 2}

def isnum(k):
    return k in BITS

def tolong(v):
    v &= M64
    return v - (1 << 64) if v >> 63 else v

def low(kind, v):
    """lowest bits of integer v as a number of the kind"""
    if kind == 0:
        return 1 if v & M64 != 0 else 0
    n = BITS[kind]
    v &= (1 << n) - 1
    if RANGE[kind][0] < 0 and v >> n - 1:
        v -= 1 << n
    return v

def utf8(b):
    try:
        bytes(b).decode('utf-8')
        return True
    except UnicodeDecodeError:
        return False

class Fault(Exception):

    def __init__(s, n, p):
        s.n = n
        s.p = p

class Tok:
    __slots__ = ('k', 'v', 'at', 'raw')

    def __init__(s, k, v, at, raw):
        s.k = k
        s.v = v
        s.at = at
        s.raw = raw

class Lex:
    """lazy: one token at a time"""

    def __init__(s, t):
        s.t = bytes(t)
        s.i = 0
        s.cur = None
        s.toks = []

    def peek(s):
        if s.cur is None:
            s.cur = s.lex()
        return s.cur

    def next(s):
        t = s.peek()
        s.cur = None
        s.toks.append(t)
        return t

    def lex(s):
        t = s.t
        i = s.i
        n = len(t)
        while i < n:
            if t[i] in (9, 10, 13, 32):
                i += 1
            elif t[i] == 35:
                while i < n and t[i] != 10:
                    i += 1
            else:
                break
        if i >= n:
            s.i = n
            return Tok('END', None, n, '')
        c = chr(t[i])
        j = i

        def name(c):
            return c < 128 and (chr(c).isalpha() or c == 95)

        def dig(c):
            return 48 <= c <= 57
        if name(t[i]):
            while j < n and (name(t[j]) or dig(t[j])):
                j += 1
            w = t[i:j].decode()
            if len(w) > 16:
                raise Fault(1, i)
            s.i = j
            return Tok('WORD' if w in WORDS else 'NAME', w, i, w)
        if dig(t[i]):
            while j < n and dig(t[j]):
                j += 1
            if j - i > 19 or int(t[i:j]) > 9223372036854775807:
                raise Fault(1, i)
            s.i = j
            return Tok('NUM', int(t[i:j]), i, str(int(t[i:j])))
        if c == '"':
            j = i + 1
            out = bytearray()
            cnt = 0
            while True:
                if j >= n:
                    raise Fault(1, i)
                b = t[j]
                if b == 34:
                    break
                cnt += 1
                if cnt > 60:
                    raise Fault(1, i)
                if b == 92:
                    if j + 1 < n and t[j + 1] in (34, 92):
                        out.append(t[j + 1])
                        j += 2
                    elif j + 3 < n and t[j + 1] == 120 and (chr(t[j + 2]) in '0123456789abcdef') and (chr(t[j + 3]) in '0123456789abcdef'):
                        out.append(int(t[j + 2:j + 4], 16))
                        j += 4
                    else:
                        raise Fault(1, i)
                elif 32 <= b <= 126:
                    out.append(b)
                    j += 1
                else:
                    raise Fault(1, i)
            s.i = j + 1
            return Tok('STR', bytes(out), i, t[i:j + 1].decode())
        for sg in ('==', '!=', '<=', '>='):
            if t[i:i + 2] == sg.encode():
                s.i = i + 2
                return Tok(sg, sg, i, sg)
        if c in '{}()[]<>,;:=@.+-*/%!':
            s.i = i + 1
            return Tok(c, c, i, c)
        raise Fault(1, i)

    def want(s, k, v=None):
        t = s.peek()
        if t.k != k or (v is not None and t.v != v):
            raise Fault(2, t.at)
        return s.next()

    def isw(s, w):
        t = s.peek()
        return t.k == 'WORD' and t.v == w

    def bad(s):
        raise Fault(2, s.peek().at)

class Obj:
    pass

def parse_schema(tape):
    L = Lex(tape)
    S = Obj()
    S.types = []
    S.services = []
    S.items = []
    soft = []

    def note(f, p):
        soft.append((p, f))

    def integer():
        neg = False
        at = L.peek().at
        if L.peek().k == '-':
            L.next()
            neg = True
        t = L.want('NUM')
        return (-t.v if neg else t.v, at)

    def plain():
        t = L.peek()
        if t.k == 'NAME' or (t.k == 'WORD' and t.v in KN):
            return L.next()
        L.bad()
    while True:
        t = L.peek()
        if t.k == 'END':
            break
        start = len(L.toks)
        if L.isw('enum') or L.isw('record'):
            rec = L.next().v == 'record'
            nm = L.peek()
            if nm.k != 'NAME':
                L.bad()
            if len(S.types) >= 30:
                raise Fault(3, nm.at)
            L.next()
            T = Obj()
            T.name = nm
            T.rec = rec
            T.fields = []
            T.ones = []
            T.consts = []
            T.keep = []
            S.types.append(T)
            S.items.append(T)
            L.want('{')
            if not rec:
                while True:
                    c = L.peek()
                    if c.k != 'NAME':
                        L.bad()
                    if len(T.consts) >= 16:
                        raise Fault(3, c.at)
                    L.next()
                    L.want('=')
                    v, at = integer()
                    L.want(';')
                    T.consts.append((c, v, at))
                    if L.peek().k == '}':
                        break
                L.next()
            else:

                def field(one):
                    F = Obj()
                    F.one = one
                    F.mode = 'S'
                    F.modetok = None
                    F.maptok = None
                    F.key = None
                    F.val = None
                    if L.isw('many') or L.isw('maybe'):
                        F.modetok = L.next()
                        F.mode = 'N' if F.modetok.v == 'many' else 'M'
                    if L.isw('map'):
                        F.maptok = L.next()
                        L.want('<')
                        F.key = plain()
                        L.want(',')
                        F.type = plain()
                        L.want('>')
                        F.mode = 'P'
                    else:
                        F.type = plain()
                    nm = L.peek()
                    if nm.k != 'NAME':
                        L.bad()
                    if len(T.fields) >= 24:
                        raise Fault(3, nm.at)
                    F.name = L.next()
                    L.want('@')
                    F.num = L.want('NUM')
                    if L.peek().k == '=':
                        L.next()
                        t = L.peek()
                        if t.k in ('-', 'NUM'):
                            v, at = integer()
                            F.val = ('INT', v, at)
                        elif t.k == 'STR':
                            L.next()
                            F.val = ('STR', t.v, t.at)
                        elif t.k == 'NAME':
                            L.next()
                            F.val = ('NAME', t.v, t.at)
                        elif t.k == 'WORD' and t.v in ('true', 'false'):
                            L.next()
                            F.val = ('BOOL', int(t.v == 'true'), t.at)
                        else:
                            L.bad()
                    L.want(';')
                    T.fields.append(F)
                while L.peek().k != '}':
                    if L.isw('one'):
                        L.next()
                        nm = L.peek()
                        if nm.k != 'NAME':
                            L.bad()
                        if len(T.ones) >= 8:
                            raise Fault(3, nm.at)
                        L.next()
                        O = Obj()
                        O.name = nm
                        O.fields = []
                        T.ones.append(O)
                        O.first = len(T.fields)
                        L.want('{')
                        while True:
                            field(len(T.ones) - 1)
                            if L.peek().k == '}':
                                break
                        L.next()
                    elif L.isw('keep'):
                        L.next()
                        T.keep.append(L.want('NUM'))
                        while L.peek().k == ',':
                            L.next()
                            T.keep.append(L.want('NUM'))
                        L.want(';')
                    else:
                        field(None)
                L.next()
            T.text = (start, len(L.toks))
        elif L.isw('service'):
            L.next()
            nm = L.peek()
            if nm.k != 'NAME':
                L.bad()
            if len(S.services) >= 4:
                raise Fault(3, nm.at)
            L.next()
            V = Obj()
            V.name = nm
            V.cells = []
            V.calls = []
            S.services.append(V)
            S.items.append(V)
            L.want('{')
            while L.isw('cell'):
                L.next()
                c = L.peek()
                if c.k != 'NAME':
                    L.bad()
                if len(V.cells) >= 8:
                    raise Fault(3, c.at)
                L.next()
                L.want(';')
                V.cells.append(c)
            while L.isw('call'):
                L.next()
                c = L.peek()
                if c.k != 'NAME':
                    L.bad()
                if len(V.calls) >= 10:
                    raise Fault(3, c.at)
                L.next()
                C = Obj()
                C.name = c
                C.steps = []
                C.nodes = 0
                V.calls.append(C)
                L.want('(')
                C.i = L.want('NAME')
                L.want(')')
                C.o = L.want('NAME')
                L.want('@')
                C.num = L.want('NUM')
                L.want('{')

                def node(t):
                    C.nodes += 1
                    if C.nodes > 100:
                        raise Fault(3, t.at)

                def exp(d):
                    a = sum_(d)
                    t = L.peek()
                    if t.k in ('==', '!=', '<', '<=', '>', '>='):
                        node(t)
                        L.next()
                        b = sum_(d)
                        a = (t.k, a, b)
                    return a

                def sum_(d):
                    a = prod(d)
                    while L.peek().k in ('+', '-'):
                        t = L.peek()
                        node(t)
                        L.next()
                        a = (t.k, a, prod(d))
                    return a

                def prod(d):
                    a = un(d)
                    while L.peek().k in ('*', '/', '%'):
                        t = L.peek()
                        node(t)
                        L.next()
                        a = (t.k, a, un(d))
                    return a

                def un(d):
                    t = L.peek()
                    if t.k in ('-', '!'):
                        if d == 10:
                            raise Fault(3, t.at)
                        node(t)
                        L.next()
                        return ('u' + t.k, un(d + 1))
                    if t.k == '(':
                        if d == 10:
                            raise Fault(3, t.at)
                        L.next()
                        a = exp(d + 1)
                        L.want(')')
                        return a
                    if t.k == 'NUM':
                        node(t)
                        L.next()
                        return ('num', t.v)
                    if t.k == 'NAME':
                        node(t)
                        L.next()
                        return ('cell', t)
                    if L.isw('in'):
                        node(t)
                        L.next()
                        L.want('.')
                        n = L.want('NAME')
                        return ('in', n)
                    L.bad()
                while L.peek().k != '}':
                    t = L.peek()
                    if t.k == 'NAME':
                        L.next()
                        L.want('=')
                        e = exp(0)
                        L.want(';')
                        C.steps.append(('cell', t, e))
                    elif L.isw('out'):
                        L.next()
                        L.want('.')
                        n = L.want('NAME')
                        L.want('=')
                        e = exp(0)
                        L.want(';')
                        C.steps.append(('out', n, e))
                    elif L.isw('fail'):
                        L.next()
                        e = exp(0)
                        L.want(';')
                        C.steps.append(('fail', None, e))
                    else:
                        L.bad()
                L.next()
            L.want('}')
            V.text = (start, len(L.toks))
        else:
            L.bad()
    S.toks = L.toks
    seen = set()
    for it in S.items:
        if it.name.v in seen:
            note(4, it.name.at)
        seen.add(it.name.v)
    tn = {}
    for k, T in enumerate(S.types):
        tn.setdefault(T.name.v, k)
    for T in S.types:
        if not T.rec:
            sn = set()
            sv = set()
            for c, v, at in T.consts:
                if c.v in sn:
                    note(4, c.at)
                sn.add(c.v)
                if not -32768 <= v <= 32767 or v in sv:
                    note(6, at)
                sv.add(v)
            T.cn = {}
            for j, (c, v, at) in enumerate(T.consts):
                T.cn.setdefault(c.v, v)
            continue
        names = [(F.name.at, F.name) for F in T.fields] + [(O.name.at, O.name) for O in T.ones]
        sn = set()
        for at, t in sorted(names, key=lambda x: x[0]):
            if t.v in sn:
                note(4, at)
            sn.add(t.v)
        sv = set()
        for t in sorted([F.num for F in T.fields] + T.keep, key=lambda t: t.at):
            if not 1 <= t.v <= 2000 or t.v in sv:
                note(6, t.at)
            sv.add(t.v)
        for F in T.fields:

            def res(tok):
                if tok.k == 'WORD':
                    return (KN.index(tok.v), None)
                k = tn.get(tok.v)
                if k is None:
                    return (None, None)
                return (12 if S.types[k].rec else 11, k)
            F.kind, F.t = res(F.type)
            F.keykind = None
            if F.kind is None:
                note(5, F.type.at)
            if F.one is not None and F.modetok:
                note(7, F.modetok.at)
            if F.maptok and (F.modetok or F.one is not None):
                note(7, F.maptok.at)
            if F.key:
                kk, _ = res(F.key)
                if kk is None:
                    note(5, F.key.at)
                elif not 1 <= kk <= 9:
                    note(7, F.key.at)
                F.keykind = kk
            F.default = None
    for T in S.types:
        if not T.rec:
            continue
        for F in T.fields:
            F.plain = F.mode == 'S' and F.one is None and (F.kind != 12)
            if F.kind is None:
                continue
            if F.plain:
                F.default = b'' if F.kind in (9, 10) else S.types[F.t].consts[0][1] if F.kind == 11 else 0
            if F.val:
                kd, v, at = F.val
                if not F.plain:
                    note(7, at)
                    continue
                k = F.kind
                if k == 0:
                    ok = kd == 'BOOL'
                elif k in (9, 10):
                    ok = kd == 'STR' and (k == 10 or utf8(v))
                elif k == 11:
                    if kd == 'NAME':
                        if v not in S.types[F.t].cn:
                            note(5, at)
                            continue
                        v = S.types[F.t].cn[v]
                        ok = True
                    else:
                        ok = kd == 'INT' and -32768 <= v <= 32767
                else:
                    ok = kd == 'INT' and RANGE[k][0] <= v <= RANGE[k][1]
                if not ok:
                    note(7, at)
                else:
                    F.default = v
    for V in S.services:
        nm = set()
        nu = set()
        for t in V.cells + [C.name for C in V.calls]:
            if t.v in nm:
                note(4, t.at)
            nm.add(t.v)
        cells = {}
        for i, t in enumerate(V.cells):
            cells.setdefault(t.v, i)
        for C in V.calls:
            if C.num.v > 1000 or C.num.v in nu:
                note(6, C.num.at)
            nu.add(C.num.v)

            def recof(t):
                k = tn.get(t.v)
                if k is None or not S.types[k].rec:
                    note(5, t.at)
                    return None
                return k
            C.ik = recof(C.i)
            C.ok = recof(C.o)

            def fld(k, t):
                if k is None:
                    return None
                for j, F in enumerate(S.types[k].fields):
                    if F.name.v == t.v:
                        return j
                note(5, t.at)
                return None

            def walk(e):
                if e[0] == 'num':
                    return e
                if e[0] == 'cell':
                    if e[1].v not in cells:
                        note(5, e[1].at)
                        return e
                    return ('cell', cells[e[1].v])
                if e[0] == 'in':
                    return ('in', fld(C.ik, e[1]))
                return (e[0],) + tuple((walk(x) for x in e[1:]))
            ns = []
            for kd, t, e in C.steps:
                tgt = None
                if kd == 'cell':
                    if t.v not in cells:
                        note(5, t.at)
                    else:
                        tgt = cells[t.v]
                elif kd == 'out':
                    tgt = fld(C.ok, t)
                    if tgt is not None:
                        F = S.types[C.ok].fields[tgt]
                        if F.mode not in 'SM' or F.kind is None or (not isnum(F.kind)):
                            note(7, t.at)
                ns.append((kd, tgt, walk(e)))
            C.steps = ns
    if soft:
        p, f = min(soft)
        raise Fault(f, p)
    for T in S.types:
        if T.rec:
            layout(T)
    return S

def layout(T):
    used = set()
    T.P = 0

    def place(n):
        p = 0
        while any((p + i in used for i in range(n))):
            p += n
        for i in range(n):
            used.add(p + i)
        return p

    def ptr():
        T.P += 1
        return T.P - 1
    for F in T.fields:
        F.place = F.ptr = F.flag = None
    for o, O in enumerate(T.ones):
        O.fs = sorted([j for j, F in enumerate(T.fields) if F.one == o], key=lambda j: T.fields[j].num.v)
        O.least = T.fields[O.fs[0]].num.v
    units = [(F.num.v, 'f', F) for F in T.fields if F.one is None] + [(O.least, 'o', O) for O in T.ones]
    for _, u, X in sorted(units, key=lambda x: x[0]):
        if u == 'f':
            if X.mode == 'M' and X.kind != 12:
                X.flag = place(1)
            if X.mode in 'SM' and isnum(X.kind):
                X.place = place(BITS[X.kind])
            else:
                X.ptr = ptr()
        else:
            fs = [T.fields[j] for j in X.fs]
            X.tag = place(16)
            X.place = X.ptr = None
            if any((isnum(F.kind) for F in fs)):
                X.place = place(64)
            if any((not isnum(F.kind) for F in fs)):
                X.ptr = ptr()
            for i, F in enumerate(fs):
                F.flag = X.tag
                F.tagno = i + 1
                if isnum(F.kind):
                    F.place = X.place
                else:
                    F.ptr = X.ptr
    T.D = max(used) // 64 + 1 if used else 0

def order(T):
    return sorted(range(len(T.fields)), key=lambda j: T.fields[j].num.v)

class Rec:

    def __init__(s, k):
        s.k = k
        s.f = {}
        s.unk = []

    def copy(s):
        r = Rec(s.k)
        r.unk = list(s.unk)
        r.f = {j: cp(v) for j, v in s.f.items()}
        return r

def cp(v):
    if isinstance(v, Rec):
        return v.copy()
    if isinstance(v, list):
        return [cp(x) for x in v]
    if isinstance(v, dict):
        return {k: cp(x) for k, x in v.items()}
    return v

def setf(S, r, j, v):
    F = S.types[r.k].fields[j]
    if F.one is not None:
        for i, G in enumerate(S.types[r.k].fields):
            if G.one == F.one and i != j:
                r.f.pop(i, None)
    if F.plain and v == F.default or (isinstance(v, (list, dict)) and (not v)):
        r.f.pop(j, None)
    else:
        r.f[j] = v

def keysort(kk, d):
    return sorted(d)

def measure(S, r):
    """VALUES, BYTES, depth, unknown"""
    st = [0, 0, 1, 0]

    def val(v, d):
        if isinstance(v, Rec):
            rec(v, d + 1)
        elif isinstance(v, bytes):
            st[1] += len(v)

    def rec(r, d):
        st[2] = max(st[2], d)
        for j, v in r.f.items():
            st[0] += 1
            if isinstance(v, list):
                for x in v:
                    st[0] += 1
                    val(x, d)
            elif isinstance(v, dict):
                for k, x in v.items():
                    st[0] += 2
                    if isinstance(k, bytes):
                        st[1] += len(k)
                    val(x, d)
            else:
                val(v, d)
        for n, w, b in r.unk:
            st[0] += 1
            st[1] += len(b)
            st[3] += 1
    rec(r, 1)
    return st

def large(S, r):
    m = measure(S, r)
    return m[0] > 400 or m[1] > 2000

def eqv(a, b, unk):
    if isinstance(a, Rec):
        if set(a.f) != set(b.f):
            return False
        if unk and a.unk != b.unk:
            return False
        return all((eqv(a.f[j], b.f[j], unk) for j in a.f))
    if isinstance(a, list):
        return len(a) == len(b) and all((eqv(x, y, unk) for x, y in zip(a, b)))
    if isinstance(a, dict):
        return set(a) == set(b) and all((eqv(a[k], b[k], unk) for k in a))
    return a == b
VSTART = ('-', 'NUM', 'STR', 'NAME', '{', '[', '<')

class TextR:

    def __init__(s, S, L):
        s.S = S
        s.L = L

    def starts(s):
        t = s.L.peek()
        return t.k in VSTART or (t.k == 'WORD' and t.v in ('true', 'false'))

    def needstart(s):
        if not s.starts():
            s.L.bad()

    def integer(s):
        neg = False
        if s.L.peek().k == '-':
            s.L.next()
            neg = True
        t = s.L.want('NUM')
        return -t.v if neg else t.v

    def single(s, kind, t, d):
        L = s.L
        s.needstart()
        tk = L.peek()
        if kind == 12:
            if tk.k != '{':
                raise Fault(7, tk.at)
            return s.rec(t, d + 1)
        if kind in (9, 10):
            if tk.k != 'STR' or (kind == 9 and (not utf8(tk.v))):
                raise Fault(7, tk.at)
            L.next()
            return tk.v
        if kind == 0:
            if tk.k == 'WORD':
                L.next()
                return int(tk.v == 'true')
            raise Fault(7, tk.at)
        if kind == 11 and tk.k == 'NAME':
            if tk.v not in s.S.types[t].cn:
                raise Fault(5, tk.at)
            L.next()
            return s.S.types[t].cn[tk.v]
        if tk.k in ('-', 'NUM'):
            v = s.integer()
            if not RANGE[kind][0] <= v <= RANGE[kind][1]:
                raise Fault(7, tk.at)
            return v
        raise Fault(7, tk.at)

    def rec(s, k, d):
        L = s.L
        if d > 12:
            raise Fault(3, L.peek().at)
        L.next()
        r = Rec(k)
        T = s.S.types[k]
        seen = set()
        ones = set()
        if L.peek().k == '}':
            L.next()
            return r
        while True:
            n = L.peek()
            if n.k != 'NAME':
                L.bad()
            j = next((j for j, F in enumerate(T.fields) if F.name.v == n.v), None)
            if j is None:
                raise Fault(5, n.at)
            F = T.fields[j]
            if j in seen or (F.one is not None and F.one in ones):
                raise Fault(4, n.at)
            seen.add(j)
            if F.one is not None:
                ones.add(F.one)
            L.next()
            L.want(':')
            setf(s.S, r, j, s.whole(F, d))
            if L.peek().k == ',':
                L.next()
                continue
            L.want('}')
            return r

    def whole(s, F, d):
        L = s.L
        if F.mode in 'SM':
            return s.single(F.kind, F.t, d)
        s.needstart()
        tk = L.peek()
        if F.mode == 'N':
            if tk.k != '[':
                raise Fault(7, tk.at)
            L.next()
            out = []
            if L.peek().k == ']':
                L.next()
                return out
            while True:
                out.append(s.single(F.kind, F.t, d))
                if L.peek().k == ',':
                    L.next()
                    continue
                L.want(']')
                return out
        if tk.k != '<':
            raise Fault(7, tk.at)
        L.next()
        out = {}
        if L.peek().k == '>':
            L.next()
            return out
        while True:
            at = L.peek().at
            k = s.single(F.keykind, None, d)
            if k in out:
                raise Fault(4, at)
            L.want(':')
            out[k] = None
            out[k] = s.single(F.kind, F.t, d)
            if L.peek().k == ',':
                L.next()
                continue
            L.want('>')
            return out

def read_message(S, tape):
    L = Lex(tape)
    n = L.peek()
    if n.k != 'NAME':
        L.bad()
    k = next((k for k, T in enumerate(S.types) if T.name.v == n.v), None)
    if k is None or not S.types[k].rec:
        raise Fault(5, n.at)
    L.next()
    r = TextR(S, L).single(12, k, 0)
    L.want('END')
    if large(S, r):
        raise Fault(3, 0)
    return r

def pstr(b):
    o = '"'
    for c in b:
        if c in (34, 92):
            o += '\\' + chr(c)
        elif 32 <= c <= 126:
            o += chr(c)
        else:
            o += '\\x%02x' % c
    return o + '"'

def pval(S, kind, t, v):
    if kind == 12:
        return prec(S, v)
    if kind in (9, 10):
        return pstr(v)
    if kind == 0:
        return 'true' if v else 'false'
    if kind == 11:
        for c, x, _ in S.types[t].consts:
            if x == v:
                return c.v
    return str(v)

def prec(S, r):
    T = S.types[r.k]
    parts = []
    for j in order(T):
        if j in r.f:
            F = T.fields[j]
            v = r.f[j]
            if F.mode == 'N':
                x = '[' + ','.join((pval(S, F.kind, F.t, y) for y in v)) + ']'
            elif F.mode == 'P':
                x = '<' + ','.join((pval(S, F.keykind, None, k) + ':' + pval(S, F.kind, F.t, v[k]) for k in keysort(0, v))) + '>'
            else:
                x = pval(S, F.kind, F.t, v)
            parts.append(F.name.v + ':' + x)
    return '{' + ','.join(parts) + '}'

def varint(v):
    v &= M64
    o = bytearray()
    while v > 127:
        o.append(v & 127 | 128)
        v >>= 7
    o.append(v)
    return bytes(o)

def snum(kind, v):
    if kind == 8:
        return struct.pack('<Q', v)
    if kind == 4:
        return struct.pack('<I', v)
    if kind in (3, 7):
        return varint(2 * v if v >= 0 else -2 * v - 1)
    return varint(v)

def sval(S, kind, v):
    if isnum(kind):
        return snum(kind, v)
    b = stream(S, v) if kind == 12 else v
    return varint(len(b)) + b

def skey(n, w):
    return varint(n * 8 + w)

def stream(S, r):
    T = S.types[r.k]
    o = b''
    for j in order(T):
        if j not in r.f:
            continue
        F = T.fields[j]
        v = r.f[j]
        n = F.num.v
        if F.mode == 'N':
            if isnum(F.kind):
                b = b''.join((snum(F.kind, x) for x in v))
                o += skey(n, 2) + varint(len(b)) + b
            else:
                for x in v:
                    o += skey(n, 2) + sval(S, F.kind, x)
        elif F.mode == 'P':
            for k in keysort(0, v):
                b = skey(1, WIRE[F.keykind]) + sval(S, F.keykind, k) + skey(2, WIRE[F.kind]) + sval(S, F.kind, v[k])
                o += skey(n, 2) + varint(len(b)) + b
        else:
            o += skey(n, WIRE[F.kind]) + sval(S, F.kind, v)
    for n, w, b in r.unk:
        o += skey(n, w) + b
    return o

class StreamR:

    def __init__(s, S, b):
        s.S = S
        s.b = b
        s.i = 0

    def vi(s, end):
        st = s.i
        v = 0
        for n in range(10):
            if s.i >= end:
                raise Fault(1, end)
            c = s.b[s.i]
            s.i += 1
            if n == 9 and c > 1:
                raise Fault(2, st)
            v |= (c & 127) << 7 * n
            if c < 128:
                return v
        assert 0

    def key(s, end):
        at = s.i
        v = s.vi(end)
        if v >> 3 == 0 or v >> 3 > 536870911:
            raise Fault(3, at)
        if v & 7 in (3, 4, 6, 7):
            raise Fault(4, at)
        return (at, v >> 3, v & 7)

    def ln(s, end):
        n = s.vi(end)
        if n > end - s.i:
            raise Fault(1, end)
        return n

    def fix(s, n, end):
        if s.i + n > end:
            raise Fault(1, end)
        v = int.from_bytes(s.b[s.i:s.i + n], 'little')
        s.i += n
        return v

    def num(s, kind, end):
        if kind == 8:
            return s.fix(8, end)
        if kind == 4:
            return s.fix(4, end)
        v = s.vi(end)
        if kind in (3, 7):
            v &= (1 << BITS[kind]) - 1
            return v // 2 if v % 2 == 0 else -(v // 2) - 1
        return low(kind, v)

    def val(s, kind, t, end, d, keyat, old=None):
        if isnum(kind):
            return s.num(kind, end)
        n = s.ln(end)
        if kind == 12:
            if d + 1 > 12:
                raise Fault(6, keyat)
            r = old if old is not None else Rec(t)
            s.rec(r, s.i + n, d + 1)
            return r
        b = bytes(s.b[s.i:s.i + n])
        if kind == 9 and (not utf8(b)):
            raise Fault(5, s.i)
        s.i += n
        return b

    def skip(s, w, end):
        if w == 0:
            s.vi(end)
        elif w == 1:
            s.fix(8, end)
        elif w == 5:
            s.fix(4, end)
        else:
            n = s.ln(end)
            s.i += n

    def rec(s, r, end, d):
        T = s.S.types[r.k]
        while s.i < end:
            at, n, w = s.key(end)
            j = next((j for j, F in enumerate(T.fields) if F.num.v == n), None)
            F = T.fields[j] if j is not None else None
            if F and F.mode == 'P' and (w == 2):
                m = r.f.get(j, {})
                ln = s.ln(end)
                stop = s.i + ln
                k = b'' if F.keykind == 9 else 0
                it = None
                got = False
                while s.i < stop:
                    a2, n2, w2 = s.key(stop)
                    if n2 == 1 and w2 == WIRE[F.keykind]:
                        k = s.val(F.keykind, None, stop, d, a2)
                    elif n2 == 2 and w2 == WIRE[F.kind]:
                        it = s.val(F.kind, F.t, stop, d, a2)
                        got = True
                    else:
                        s.skip(w2, stop)
                if not got:
                    if F.kind == 12:
                        if d + 1 > 12:
                            raise Fault(6, at)
                        it = Rec(F.t)
                    elif F.kind in (9, 10):
                        it = b''
                    elif F.kind == 11:
                        it = s.S.types[F.t].consts[0][1]
                    else:
                        it = 0
                m[k] = it
                setf(s.S, r, j, m)
            elif F and F.mode == 'N' and isnum(F.kind) and (w == 2):
                ln = s.ln(end)
                stop = s.i + ln
                l = r.f.get(j, [])
                while s.i < stop:
                    l.append(s.num(F.kind, stop))
                setf(s.S, r, j, l)
            elif F and F.mode == 'N' and (w == WIRE[F.kind]):
                l = r.f.get(j, [])
                l.append(s.val(F.kind, F.t, end, d, at))
                setf(s.S, r, j, l)
            elif F and F.mode in 'SM' and (w == WIRE[F.kind]):
                setf(s.S, r, j, s.val(F.kind, F.t, end, d, at, r.f.get(j) if F.kind == 12 else None))
            else:
                st = s.i
                s.skip(w, end)
                r.unk.append((n, w, bytes(s.b[st:s.i])))

def read_stream(S, k, b):
    r = Rec(k)
    StreamR(S, b).rec(r, len(b), 1)
    return r

class CantWrite(Exception):
    pass

def pad4(b):
    return b + bytes(-len(b) % 4)

def i4(v):
    return struct.pack('>I', v & 4294967295)

def lval(S, kind, t, v):
    if kind == 12:
        return linear(S, v)
    if kind in (9, 10):
        return i4(len(v)) + pad4(v)
    if kind == 11 and v not in [c[1] for c in S.types[t].consts]:
        raise CantWrite()
    return struct.pack('>Q', v & M64) if BITS[kind] == 64 else i4(v)

def linear(S, r):
    T = S.types[r.k]
    o = []
    done = set()
    for j, F in enumerate(T.fields):
        if F.one is not None:
            if F.one in done:
                continue
            done.add(F.one)
            there = [i for i in r.f if T.fields[i].one == F.one]
            if not there:
                o.append(i4(0))
            else:
                G = T.fields[there[0]]
                o.append(i4(G.num.v))
                o.append(lval(S, G.kind, G.t, r.f[there[0]]))
        elif F.mode == 'N':
            v = r.f.get(j, [])
            o.append(i4(len(v)))
            for x in v:
                o.append(lval(S, F.kind, F.t, x))
        elif F.mode == 'P':
            v = r.f.get(j, {})
            o.append(i4(len(v)))
            for k in keysort(0, v):
                o.append(lval(S, F.keykind, None, k))
                o.append(lval(S, F.kind, F.t, v[k]))
        elif F.plain:
            o.append(lval(S, F.kind, F.t, r.f.get(j, F.default)))
        elif j in r.f:
            o.append(i4(1))
            o.append(lval(S, F.kind, F.t, r.f[j]))
        else:
            o.append(i4(0))
    return b''.join(o)

class LinR:

    def __init__(s, S, b):
        s.S = S
        s.b = b
        s.i = 0
        s.items = 0

    def take(s, n):
        if len(s.b) - s.i < n:
            raise Fault(1, len(s.b))
        v = s.b[s.i:s.i + n]
        s.i += n
        return v

    def u4(s):
        return int.from_bytes(s.take(4), 'big')

    def flag(s):
        at = s.i
        v = s.u4()
        if v > 1:
            raise Fault(2, at)
        return v

    def val(s, kind, t, d):
        if kind == 12:
            return s.rec(t, d + 1)
        if kind in (9, 10):
            n = s.u4()
            at = s.i
            b = bytes(s.take(n))
            if kind == 9 and (not utf8(b)):
                raise Fault(5, at)
            for _ in range(-n % 4):
                p = s.i
                if s.take(1) != b'\x00':
                    raise Fault(3, p)
            return b
        if kind == 0:
            return s.flag()
        at = s.i
        if kind == 11:
            v = s.u4()
            v = v - (1 << 32) if v >> 31 else v
            if v not in [c[1] for c in s.S.types[t].consts]:
                raise Fault(4, at)
            return v
        return low(kind, int.from_bytes(s.take(BITS[kind] // 8), 'big'))

    def count(s):
        at = s.i
        n = s.u4()
        s.items += n
        if s.items > 400:
            raise Fault(7, at)
        return n

    def rec(s, k, d):
        if d > 12:
            raise Fault(6, s.i)
        r = Rec(k)
        T = s.S.types[k]
        done = set()
        for j, F in enumerate(T.fields):
            if F.one is not None:
                if F.one in done:
                    continue
                done.add(F.one)
                at = s.i
                n = s.u4()
                if n == 0:
                    continue
                g = [i for i, G in enumerate(T.fields) if G.one == F.one and G.num.v == n]
                if not g:
                    raise Fault(8, at)
                G = T.fields[g[0]]
                setf(s.S, r, g[0], s.val(G.kind, G.t, d))
            elif F.mode == 'N':
                n = s.count()
                setf(s.S, r, j, [s.val(F.kind, F.t, d) for _ in range(n)])
            elif F.mode == 'P':
                n = s.count()
                m = {}
                prev = None
                for _ in range(n):
                    at = s.i
                    key = s.val(F.keykind, None, d)
                    if prev is not None and (not key > prev):
                        raise Fault(9, at)
                    prev = key
                    m[key] = s.val(F.kind, F.t, d)
                setf(s.S, r, j, m)
            elif F.plain:
                setf(s.S, r, j, s.val(F.kind, F.t, d))
            elif s.flag():
                setf(s.S, r, j, s.val(F.kind, F.t, d))
        return r

def read_linear(S, k, b):
    R = LinR(S, b)
    r = R.rec(k, 1)
    if R.i < len(b):
        raise Fault(10, R.i)
    return r

def entry(F):
    """layout of a map's records"""
    E = Obj()
    E.fields = []
    E.ones = []
    for n, (k, t) in enumerate(((F.keykind, None), (F.kind, F.t))):
        G = Obj()
        G.num = Obj()
        G.num.v = n + 1
        G.kind = k
        G.t = t
        G.mode = 'S'
        G.one = None
        E.fields.append(G)
    layout(E)
    return E
SORT = {1: 1, 16: 3, 32: 4, 64: 5}

class SlotW:

    def __init__(s, S):
        s.S = S
        s.w = []

    def alloc(s, n):
        a = len(s.w)
        s.w.extend([0] * n)
        return a

    def bits(s, base, bit, n, v):
        w = base + bit // 64
        s.w[w] |= (v & (1 << n) - 1) << bit % 64

    def point(s, p, t, lowbits, hi):
        s.w[p] = lowbits | (t - p - 1 & 1073741823) << 2 | hi << 32

    def recptr(s, p, r):
        T = s.S.types[r.k]
        n = T.D + T.P
        t = s.alloc(n) if n else p
        s.point(p, t, 0, T.D | T.P << 16)
        s.data(t, r)
        s.ptrs(t, r)

    def data(s, t, r):
        T = s.S.types[r.k]
        for j, v in r.f.items():
            F = T.fields[j]
            if F.one is not None:
                s.bits(t, F.flag, 16, F.tagno)
                if isnum(F.kind):
                    s.bits(t, F.place, 64, v)
                continue
            if F.mode == 'M' and F.kind != 12:
                s.bits(t, F.flag, 1, 1)
            if F.mode in 'SM' and isnum(F.kind):
                n = BITS[F.kind]
                s.bits(t, F.place, n, v ^ F.default if F.plain else v)

    def ptrs(s, t, r):
        T = s.S.types[r.k]
        for q in range(T.P):
            for j, v in r.f.items():
                F = T.fields[j]
                if F.ptr == q:
                    s.obj(t + T.D + q, F, v)

    def obj(s, p, F, v):
        if F.mode == 'N':
            s.lst(p, F, v)
        elif F.mode == 'P':
            s.mp(p, F, v)
        else:
            s.val(p, F.kind, v, F.mode == 'M')

    def val(s, p, kind, v, zero):
        if kind == 12:
            s.recptr(p, v)
            return
        if zero and len(v) == 0:
            return
        b = v + b'\x00' if kind == 9 else v
        t = s.alloc((len(b) + 7) // 8)
        s.point(p, t, 1, 2 | len(b) << 3)
        for i, c in enumerate(b):
            s.bits(t, 8 * i, 8, c)

    def lst(s, p, F, v):
        n = len(v)
        if isnum(F.kind):
            b = BITS[F.kind]
            t = s.alloc((n * b + 63) // 64)
            s.point(p, t, 1, SORT[b] | n << 3)
            for i, x in enumerate(v):
                s.bits(t, b * i, b, x)
        elif F.kind == 12:
            T = s.S.types[F.t]
            z = T.D + T.P
            t = s.alloc(1 + n * z)
            s.point(p, t, 1, 7 | n * z << 3)
            s.w[t] = n << 2 | T.D << 32 | T.P << 48
            for i, x in enumerate(v):
                s.data(t + 1 + i * z, x)
            for i, x in enumerate(v):
                s.ptrs(t + 1 + i * z, x)
        else:
            t = s.alloc(n)
            s.point(p, t, 1, 6 | n << 3)
            for i, x in enumerate(v):
                s.val(t + i, F.kind, x, True)

    def mp(s, p, F, m):
        E = entry(F)
        z = E.D + E.P
        n = len(m)
        K, I = E.fields
        t = s.alloc(1 + n * z)
        s.point(p, t, 1, 7 | n * z << 3)
        s.w[t] = n << 2 | E.D << 32 | E.P << 48
        ks = keysort(0, m)
        for i, k in enumerate(ks):
            if isnum(K.kind):
                s.bits(t + 1 + i * z, K.place, BITS[K.kind], k)
            if isnum(I.kind):
                s.bits(t + 1 + i * z, I.place, BITS[I.kind], m[k])
        for i, k in enumerate(ks):
            b = t + 1 + i * z + E.D
            if not isnum(K.kind):
                s.val(b + K.ptr, K.kind, k, True)
            if not isnum(I.kind):
                s.val(b + I.ptr, I.kind, m[k], True)

def slotted(S, r):
    W = SlotW(S)
    W.alloc(1)
    W.recptr(0, r)
    return b''.join((struct.pack('<Q', w) for w in W.w))

class SlotR:

    def __init__(s, S, b):
        s.S = S
        s.w = [int.from_bytes(b[i:i + 8], 'little') for i in range(0, len(b), 8)]
        s.b = b
        s.walk = 0
        s.items = 0

    def target(s, p):
        o = (s.w[p] & 4294967295) >> 2
        if o >> 29:
            o -= 1 << 30
        return p + 1 + o

    def bound(s, p, t, n):
        if t < 0 or t > len(s.w) or t + n > len(s.w):
            raise Fault(3, 8 * p)

    def step(s, p, n):
        s.walk += max(1, n)
        if s.walk > 1000:
            raise Fault(7, 8 * p)

    def addi(s, p, n):
        s.items += n
        if s.items > 400:
            raise Fault(7, 8 * p)

    def recp(s, p):
        w = s.w[p]
        if w & 3 != 0:
            raise Fault(2, 8 * p)
        D = w >> 32 & 65535
        P = w >> 48
        t = s.target(p)
        s.bound(p, t, D + P)
        s.step(p, D + P)
        return (t, D, P)

    def listp(s, p, sort):
        w = s.w[p]
        if w & 3 != 1:
            raise Fault(2, 8 * p)
        so = w >> 32 & 7
        n = w >> 35
        t = s.target(p)
        bits = {0: 0, 1: 1, 2: 8, 3: 16, 4: 32, 5: 64, 6: 64}
        words = n + 1 if so == 7 else (n * bits[so] + 63) // 64
        s.bound(p, t, words)
        if so != sort:
            raise Fault(4, 8 * p)
        s.step(p, words)
        if sort in (1, 3, 4, 5, 6):
            s.addi(p, n)
        return (t, n)

    def reclist(s, p, depthfault):
        t, n = s.listp(p, 7)
        if depthfault:
            raise Fault(6, 8 * p)
        w = s.w[t]
        c = (w & 4294967295) >> 2
        D = w >> 32 & 65535
        P = w >> 48
        if w & 3 != 0 or c * (D + P) != n:
            raise Fault(9, 8 * t)
        s.addi(p, c)
        return (t + 1, c, D, P)

    def rec(s, k, t, D, P, d):
        T = s.S.types[k]
        r = Rec(k)

        def bits(bit, n):
            if bit // 64 >= D:
                return 0
            return s.w[t + bit // 64] >> bit % 64 & (1 << n) - 1
        tags = []
        for O in T.ones:
            tag = bits(O.tag, 16)
            if tag > len(O.fs):
                raise Fault(8, 8 * t)
            tags.append(tag)
        byptr = {}
        for j, F in enumerate(T.fields):
            if F.one is not None:
                tag = tags[F.one]
                if tag != F.tagno:
                    continue
                if isnum(F.kind):
                    setf(s.S, r, j, low(F.kind, bits(F.place, 64)))
                else:
                    byptr[F.ptr] = (j, F)
                continue
            if F.mode == 'M' and F.kind != 12 and (bits(F.flag, 1) == 0):
                continue
            if F.mode in 'SM' and isnum(F.kind):
                v = bits(F.place, BITS[F.kind])
                if F.plain:
                    v ^= F.default & (1 << BITS[F.kind]) - 1
                setf(s.S, r, j, low(F.kind, v))
            else:
                byptr[F.ptr] = (j, F)
        for q in range(T.P):
            if q not in byptr:
                continue
            j, F = byptr[q]
            p = t + D + q if q < P else None
            z = p is None or s.w[p] == 0
            if F.mode == 'N':
                if z:
                    continue
                if isnum(F.kind):
                    b = BITS[F.kind]
                    lt, n = s.listp(p, SORT[b])
                    l = []
                    for i in range(n):
                        l.append(low(F.kind, s.w[lt + i * b // 64] >> i * b % 64 & (1 << b) - 1))
                elif F.kind == 12:
                    lt, n, D2, P2 = s.reclist(p, d + 1 > 12)
                    l = []
                    for i in range(n):
                        l.append(s.rec(F.t, lt + i * (D2 + P2), D2, P2, d + 1))
                else:
                    lt, n = s.listp(p, 6)
                    l = []
                    for i in range(n):
                        l.append(b'' if s.w[lt + i] == 0 else s.string(lt + i, F.kind))
                setf(s.S, r, j, l)
            elif F.mode == 'P':
                if z:
                    continue
                lt, n, D2, P2 = s.reclist(p, False)
                E = entry(F)
                K, I = E.fields
                m = {}
                prev = None
                for i in range(n):
                    e = lt + i * (D2 + P2)

                    def eb(bit, nb):
                        return 0 if bit // 64 >= D2 else s.w[e + bit // 64] >> bit % 64 & (1 << nb) - 1

                    def ep(q):
                        return e + D2 + q if q < P2 else None
                    if isnum(K.kind):
                        key = low(K.kind, eb(K.place, BITS[K.kind]))
                    else:
                        x = ep(K.ptr)
                        key = b'' if x is None or s.w[x] == 0 else s.string(x, 9)
                    if prev is not None and (not key > prev):
                        raise Fault(10, 8 * p)
                    prev = key
                    if isnum(I.kind):
                        m[key] = low(I.kind, eb(I.place, BITS[I.kind]))
                    else:
                        x = ep(I.ptr)
                        m[key] = s.ptrval(x, I.kind, I.t, d, e)
                setf(s.S, r, j, m)
            else:
                if z and F.one is None:
                    if F.plain or F.kind == 12:
                        continue
                    setf(s.S, r, j, b'')
                    continue
                setf(s.S, r, j, s.ptrval(p, F.kind, F.t, d, t))
        return r

    def ptrval(s, p, kind, t, d, home):
        z = p is None or s.w[p] == 0
        if kind == 12:
            if z:
                if d + 1 > 12:
                    raise Fault(6, 8 * (home if p is None else p))
                return Rec(t)
            a, D, P = s.recp(p)
            if d + 1 > 12:
                raise Fault(6, 8 * p)
            return s.rec(t, a, D, P, d + 1)
        return b'' if z else s.string(p, kind)

    def string(s, p, kind):
        t, n = s.listp(p, 2)
        b = bytes(s.b[8 * t:8 * t + n])
        if kind == 9:
            if n == 0 or b[-1] != 0 or (not utf8(b[:-1])):
                raise Fault(5, 8 * p)
            b = b[:-1]
        return b

def read_slotted(S, k, b):
    if len(b) == 0 or len(b) % 8:
        raise Fault(1, len(b))
    R = SlotR(S, b)
    if R.w[0] == 0:
        return R.rec(k, 0, 0, 0, 1)
    t, D, P = R.recp(0)
    return R.rec(k, t, D, P, 1)

def write(S, r, f):
    return (stream, linear, slotted)[f](S, r)

def readf(S, k, b, f):
    r = (read_stream, read_linear, read_slotted)[f](S, k, bytes(b))
    if large(S, r):
        raise Fault(7, 0)
    return r

class Judging:

    def __init__(s, A, B, f):
        s.A = A
        s.B = B
        s.f = f
        s.val = {}

    def run(s, a, b):
        s.val[a, b] = 0
        while True:
            ch = False
            for p in list(s.val):
                v, _ = s.pair(*p)
                if v != s.val[p]:
                    s.val[p] = v
                    ch = True
            if not ch and s.n == len(s.val):
                break
            s.n = len(s.val)
        return s.pair(a, b)
    n = 0

    def rr(s, a, b):
        return s.val.setdefault((a, b), 0)

    def sup(s, nk, ok):
        return RANGE[nk][0] <= RANGE[ok][0] and RANGE[ok][1] <= RANGE[nk][1]

    def kinds(s, k, t, nk, nt):
        if k == 12 and nk == 12:
            return s.rr(t, nt)
        if s.f == 0:
            if k == nk:
                return 0
            if WIRE[k] != WIRE[nk]:
                return 2
            if WIRE[k] == 2:
                return 1 if (k, nk) == (9, 10) else 3
            return 1 if (k in (3, 7)) == (nk in (3, 7)) and s.sup(nk, k) else 2
        if s.f == 1:
            if k == nk:
                if k == 11:
                    nn = [c[1] for c in s.B.types[nt].consts]
                    return 3 if any((c[1] not in nn for c in s.A.types[t].consts)) else 0
                return 0
            if (k, nk) == (9, 10):
                return 1
            if isnum(k) and isnum(nk) and ((BITS[k] == 64) == (BITS[nk] == 64)) and (nk not in (0, 11)):
                return 1 if s.sup(nk, k) else 2
            return 3
        if k == nk:
            return 0
        if isnum(k) and isnum(nk) and (BITS[k] == BITS[nk]):
            return 1 if s.sup(nk, k) else 2
        return 3

    def pair(s, a, b):
        TA = s.A.types[a]
        TB = s.B.types[b]
        if s.f == 1:

            def parts(T):
                o = []
                done = set()
                for F in T.fields:
                    if F.one is None:
                        o.append(('f', F))
                    elif F.one not in done:
                        done.add(F.one)
                        o.append(('o', T.ones[F.one]))
                return o
            pa, pb = (parts(TA), parts(TB))
            if len(pa) != len(pb):
                return (3, 0)
            res = []
            for (x, F), (y, G) in zip(pa, pb):
                num = F.num.v if x == 'f' else F.least
                if x != y:
                    res.append((3, num))
                    continue
                if x == 'o':
                    w = 0
                    for j in F.fs:
                        f1 = TA.fields[j]
                        g1 = [TB.fields[i] for i in G.fs if TB.fields[i].num.v == f1.num.v]
                        w = max(w, 3 if not g1 else s.kinds(f1.kind, f1.t, g1[0].kind, g1[0].t))
                    res.append((w, num))
                    continue
                ma = 'M' if F.mode in 'SM' and F.kind == 12 else F.mode
                mb = 'M' if G.mode in 'SM' and G.kind == 12 else G.mode
                if ma != mb:
                    res.append((3, num))
                    continue
                v = s.kinds(F.kind, F.t, G.kind, G.t)
                if ma == 'P':
                    v = max(v, s.kinds(F.keykind, None, G.keykind, None))
                res.append((v, num))
        else:
            res = []
            nb = {G.num.v: G for G in TB.fields}
            for F in TA.fields:
                G = nb.get(F.num.v)
                if s.f == 0:
                    if G is None:
                        continue
                    res.append((s.sfield(TA, F, TB, G), F.num.v))
                else:
                    res.append((s.wfield(TA, F, TB, G), F.num.v))
        top = max([v for v, _ in res], default=0)
        if top == 0:
            return (0, 0)
        return (top, min((n for v, n in res if v == top)))

    def sfield(s, TA, F, TB, G):
        if F.mode == 'P' or G.mode == 'P':
            if F.mode != G.mode:
                return 3
            return max(s.kinds(F.keykind, None, G.keykind, None), s.kinds(F.kind, F.t, G.kind, G.t))
        kk = s.kinds(F.kind, F.t, G.kind, G.t)
        fm, gm = (F.mode == 'N', G.mode == 'N')
        if fm and gm:
            if isnum(F.kind) != isnum(G.kind) or WIRE[F.kind] != WIRE[G.kind]:
                return 3
            return kk
        if fm:
            if isnum(F.kind):
                return 2 if isnum(G.kind) else 3
            return max(kk, 2)
        if gm:
            if isnum(G.kind) and WIRE[F.kind] == 2:
                return 3
            return max(kk, 1)
        lose = F.plain != G.plain or (F.plain and G.plain and (F.default != G.default))
        if G.one is not None:
            for H in TB.fields:
                if H.one == G.one and H is not G:
                    for E in TA.fields:
                        if E.num.v == H.num.v and (not (F.one is not None and E.one == F.one)):
                            lose = True
        return max(kk, 2) if lose else kk

    def wfield(s, TA, F, TB, G):
        if G is None:
            return 3
        if (F.one is None) != (G.one is None):
            return 3
        if (F.flag, F.place, F.ptr) != (G.flag, G.place, G.ptr):
            return 3
        if F.one is not None:
            if F.tagno != G.tagno or len(TB.ones[G.one].fs) < len(TA.ones[F.one].fs):
                return 3
        if F.plain and G.plain and (F.default != G.default):
            return 3
        if (F.mode == 'N') != (G.mode == 'N') or (F.mode == 'P') != (G.mode == 'P'):
            return 3
        v = s.kinds(F.kind, F.t, G.kind, G.t)
        if F.mode == 'P':
            v = max(v, s.kinds(F.keykind, None, G.keykind, None))
        return v

def texts(S, item):
    return ''.join((t.raw + ' ' for t in S.toks[item.text[0]:item.text[1]])).encode()

def fnv(h, b):
    for c in b:
        h = (h ^ c) * 1099511628211 & M64
    return h
H0 = 14695981039346656037

def mark(S, first, lst):
    h = H0
    seq = list(lst)
    if first is not None:
        h = fnv(h, texts(S, first))
    i = 0
    while i < len(seq):
        T = S.types[seq[i]]
        h = fnv(h, texts(S, T))
        if T.rec:
            for F in T.fields:
                if F.t is not None and F.t not in seq:
                    seq.append(F.t)
        i += 1
    return h

class WH:

    def __init__(s):
        s.tape = b''
        s.rows = [b''] * 8
        s.sc = [None] * 4
        s.m = [None] * 12
        s.pl = NO
        s.num = 0
        s.paths = []
        s.wh = 0
        s.srv = None
        s.cl = [None] * 3
        s.letters = []
        s.lost = 0
        s.xid = [0] * 3
        s.time = 0

    def feed(s, *v):
        if len(s.tape) + 20 > 4000:
            return FULL
        s.tape += b''.join((struct.pack('>I', x & 4294967295) for x in v))
        return len(s.tape)

    def cut(s, n):
        if not 0 <= n <= len(s.tape):
            return BAD
        s.tape = s.tape[:len(s.tape) - n]
        return len(s.tape)

    def load(s, r):
        if not 0 <= r < 8:
            return BAD
        s.rows[r] = s.tape
        s.tape = b''
        return len(s.rows[r])

    def unload(s, r):
        if not 0 <= r < 8:
            return BAD
        if len(s.tape) + len(s.rows[r]) > 4000:
            return FULL
        s.tape += s.rows[r]
        return len(s.tape)

    def size(s, r):
        return len(s.rows[r]) if 0 <= r < 8 else BAD

    def octet(s, r, i):
        return s.rows[r][i] if 0 <= r < 8 and 0 <= i < len(s.rows[r]) else BAD

    def alter(s, r, i, m):
        if not (0 <= r < 8 and 0 <= i < len(s.rows[r]) and (0 <= m <= 255)):
            return BAD
        b = bytearray(s.rows[r])
        b[i] ^= m
        s.rows[r] = bytes(b)
        return b[i]

    def equal(s, a, b):
        return int(s.rows[a] == s.rows[b]) if 0 <= a < 8 and 0 <= b < 8 else BAD

    def eat(s):
        t = s.tape
        s.tape = b''
        return t

    def flt(s, f):
        s.pl = f.p
        return -10 - f.n

    def schema(s, i):
        if not 0 <= i < 4:
            return BAD
        try:
            S = parse_schema(s.eat())
        except Fault as f:
            return s.flt(f)
        s.pl = NO
        s.sc[i] = S
        for j in range(12):
            if s.m[j] and s.m[j][0] == i:
                s.m[j] = None
        if s.srv and s.srv.s == i:
            s.noserver()
        for c in range(3):
            if s.cl[c] and s.cl[c].s == i:
                s.cl[c] = None
        return len(S.types)

    def noserver(s):
        s.srv = None
        s.cl = [None] * 3
        s.letters = []
        s.lost = 0
        s.time = 0

    def place(s):
        return s.pl

    def types(s, i, w):
        if not 0 <= i < 4 or w not in (0, 1):
            return BAD
        if not s.sc[i]:
            return NO
        return len(s.sc[i].types) if w == 0 else len(s.sc[i].services)

    def type(s, i, k, w):
        if not 0 <= i < 4 or k < 0 or (not 0 <= w <= 4):
            return BAD
        if not s.sc[i]:
            return NO
        if k >= len(s.sc[i].types):
            return BAD
        T = s.sc[i].types[k]
        if not T.rec:
            return [0, len(T.consts), 0, 0, 0][w]
        return [1, len(T.fields), len(T.ones), T.D, T.P][w]

    def field(s, i, k, j, w):
        if not 0 <= i < 4 or k < 0 or j < 0 or (not 0 <= w <= 8):
            return BAD
        if not s.sc[i]:
            return NO
        if k >= len(s.sc[i].types):
            return BAD
        T = s.sc[i].types[k]
        if not T.rec:
            return T.consts[j][1] if w == 0 and j < len(T.consts) else BAD
        if j >= len(T.fields):
            return BAD
        F = T.fields[j]
        n = lambda v: NO if v is None else v
        return [F.num.v, 'SMNP'.index(F.mode), F.kind, n(F.t), n(F.keykind), n(F.one), n(F.place), n(F.ptr), n(F.flag)][w]

    def name(s, i, so, k, j, b):
        if not 0 <= i < 4 or not 0 <= so <= 5 or k < 0 or (b < 0) or (so not in (0, 3) and j < 0):
            return BAD
        S = s.sc[i]
        if not S:
            return NO
        try:
            if so == 0:
                x = S.types[k].name
            elif so == 1:
                x = S.types[k].fields[j].name if S.types[k].rec else S.types[k].consts[j][0]
            elif so == 2:
                x = S.types[k].ones[j].name
            elif so == 3:
                x = S.services[k].name
            elif so == 4:
                x = S.services[k].calls[j].name
            else:
                x = S.services[k].cells[j]
        except IndexError:
            return BAD
        return ord(x.v[b]) if b < len(x.v) else BAD

    def service(s, i, v, j, w):
        if not 0 <= i < 4 or v < 0 or (not 0 <= w <= 6) or (w >= 2 and j < 0):
            return BAD
        S = s.sc[i]
        if not S:
            return NO
        if v >= len(S.services):
            return BAD
        V = S.services[v]
        if w < 2:
            return len(V.calls) if w == 0 else len(V.cells)
        if j >= len(V.calls):
            return BAD
        C = V.calls[j]
        return [C.num.v, C.ik, C.ok, len(C.steps), C.nodes][w - 2]

    def describe(s, i, r):
        if not 0 <= i < 4 or not 0 <= r < 8:
            return BAD
        if not s.sc[i]:
            return NO
        b = ' '.join((t.raw for t in s.sc[i].toks)).encode()
        if len(b) > 4000:
            return FULL
        s.rows[r] = b
        return len(b)

    def mark(s, i, so, k):
        if not 0 <= i < 4 or not s.sc[i] or k < 0:
            return 0
        S = s.sc[i]
        if so == 0 and k < len(S.types):
            return tolong(mark(S, None, [k]))
        if so == 1 and k < len(S.services):
            V = S.services[k]
            l = []
            for C in V.calls:
                for t in (C.ik, C.ok):
                    if t not in l:
                        l.append(t)
            return tolong(mark(S, V, l))
        return 0

    def read(s, i, m):
        if not 0 <= i < 4 or not 0 <= m < 12:
            return BAD
        if not s.sc[i]:
            return NO
        try:
            r = read_message(s.sc[i], s.eat())
        except Fault as f:
            return s.flt(f)
        s.pl = NO
        s.m[m] = (i, r)
        return measure(s.sc[i], r)[0]

    def print(s, m, r):
        if not 0 <= m < 12 or not 0 <= r < 8:
            return BAD
        if not s.m[m]:
            return NO
        S = s.sc[s.m[m][0]]
        R = s.m[m][1]
        b = (S.types[R.k].name.v + prec(S, R)).encode()
        if len(b) > 4000:
            return FULL
        s.rows[r] = b
        return len(b)

    def told(s, m, w):
        if not 0 <= m < 12 or not 0 <= w <= 5:
            return BAD
        if not s.m[m]:
            return NO
        i, R = s.m[m]
        return ([i, R.k] + measure(s.sc[i], R))[w]

    def copy(s, m, n):
        if not 0 <= m < 12 or not 0 <= n < 12:
            return BAD
        if not s.m[m]:
            return NO
        s.m[n] = (s.m[m][0], s.m[m][1].copy())
        return 1

    def drop(s, m):
        if not 0 <= m < 12:
            return BAD
        if not s.m[m]:
            return NO
        s.m[m] = None
        return 1

    def same(s, m, n):
        if not 0 <= m < 12 or not 0 <= n < 12:
            return BAD
        if not s.m[m] or not s.m[n]:
            return NO
        a, b = (s.m[m], s.m[n])
        return int(a[0] == b[0] and a[1].k == b[1].k and eqv(a[1], b[1], True))

    def encode(s, m, f, r):
        if not 0 <= m < 12 or not 0 <= f <= 2 or (not 0 <= r < 8):
            return BAD
        if not s.m[m]:
            return NO
        try:
            b = write(s.sc[s.m[m][0]], s.m[m][1], f)
        except CantWrite:
            return NO
        if len(b) > 4000:
            return FULL
        s.rows[r] = b
        return len(b)

    def decode(s, i, k, f, r, m):
        if not 0 <= i < 4 or k < 0 or (not 0 <= f <= 2) or (not 0 <= r < 8) or (not 0 <= m < 12):
            return BAD
        S = s.sc[i]
        if not S:
            return NO
        if k >= len(S.types) or not S.types[k].rec:
            return BAD
        try:
            R = readf(S, k, s.rows[r], f)
        except Fault as x:
            return s.flt(x)
        s.pl = NO
        s.m[m] = (i, R)
        return measure(S, R)[0]

    def parse_path(s, S, k, L, making):
        """yields steps: ('f',j) ('i',n) ('k',key); returns steps, and the thing's F, part, depth"""
        steps = []
        d = 1

        def nm():
            t = L.peek()
            if t.k != 'NAME':
                L.bad()
            j = next((j for j, F in enumerate(S.types[k].fields) if F.name.v == t.v), None)
            if j is None:
                raise Fault(5, t.at)
            L.next()
            steps.append(('f', j))
            return S.types[k].fields[j]
        F = nm()
        part = 0
        while L.peek().k in ('.', '['):
            t = L.next()
            if t.k == '.':
                if F.kind != 12 or (part == 0 and F.mode in 'NP'):
                    raise Fault(5, t.at)
                d += 1
                if making and d > 12:
                    raise Fault(3, t.at)
                k = F.t
                F = nm()
                part = 0
            else:
                x = L.peek()
                if x.k not in ('-', 'NUM', 'STR'):
                    L.bad()
                if part or F.mode not in 'NP':
                    raise Fault(5, t.at)
                wantstr = F.mode == 'P' and F.keykind == 9
                if wantstr != (x.k == 'STR'):
                    raise Fault(5, t.at)
                TR = TextR(S, L)
                if F.mode == 'N':
                    steps.append(('i', TR.integer()))
                else:
                    steps.append(('k', TR.single(F.keykind, None, d)))
                part = 1
                L.want(']')
        return (steps, F, part, d)

    def lookup(s, S, R, steps):
        """value or None"""
        cur = R
        F = None
        for n, (kd, x) in enumerate(steps):
            last = n == len(steps) - 1
            if kd == 'f':
                F = S.types[cur.k].fields[x]
                if x in cur.f:
                    cur = cur.f[x]
                elif F.mode == 'N':
                    cur = []
                elif F.mode == 'P':
                    cur = {}
                elif F.plain:
                    cur = F.default
                else:
                    return None
            elif kd == 'i':
                if not 0 <= x < len(cur):
                    return None
                cur = cur[x]
            else:
                if x not in cur:
                    return None
                cur = cur[x]
        return cur

    def ask(s, m, r):
        if not 0 <= m < 12 or not 0 <= r < 8:
            return BAD
        if not s.m[m]:
            return NO
        i, R = s.m[m]
        S = s.sc[i]
        s.num = 0
        try:
            L = Lex(s.eat())
            steps, F, part, d = s.parse_path(S, R.k, L, False)
            L.want('END')
        except Fault as f:
            return s.flt(f)
        s.pl = NO
        v = s.lookup(S, R, steps)
        if v is None:
            return 0
        if isinstance(v, list):
            s.num = len(v)
            return 4
        if isinstance(v, dict):
            s.num = len(v)
            return 5
        if isinstance(v, Rec):
            s.num = v.k
            return 3
        if isinstance(v, bytes):
            s.num = len(v)
            s.rows[r] = v
            return 2
        s.num = tolong(v)
        return 1

    def number(s):
        return s.num

    def put(s, m):
        if not 0 <= m < 12:
            return BAD
        if not s.m[m]:
            return NO
        i, R = s.m[m]
        S = s.sc[i]
        try:
            L = Lex(s.eat())
            steps, F, part, d = s.parse_path(S, R.k, L, True)
            L.want('=')
            TR = TextR(S, L)
            v = TR.single(F.kind, F.t, d) if part else TR.whole(F, d)
            L.want('END')
            W = R.copy()
            ok = s.apply(S, W, steps, v)
            if large(S, W):
                raise Fault(3, 0)
            if not ok:
                return NO
        except Fault as f:
            return s.flt(f)
        s.pl = NO
        s.m[m] = (i, W)
        return measure(S, W)[0]

    def apply(s, S, W, steps, v):
        rec = W
        n = 0
        while True:
            j = steps[n][1]
            F = S.types[rec.k].fields[j]
            if n + 1 < len(steps) and steps[n + 1][0] in 'ik':
                kd, x = steps[n + 1]
                last = n + 2 == len(steps)
                if kd == 'i':
                    l = rec.f.get(j, [])
                    if not 0 <= x <= len(l):
                        return False
                    if last:
                        if x < len(l):
                            l[x] = v
                        else:
                            l.append(v)
                        setf(S, rec, j, l)
                        return True
                    if x == len(l):
                        l.append(Rec(F.t))
                        setf(S, rec, j, l)
                    rec = l[x]
                else:
                    mm = rec.f.get(j, {})
                    if last:
                        mm[x] = v
                        setf(S, rec, j, mm)
                        return True
                    if x not in mm:
                        mm[x] = Rec(F.t)
                        setf(S, rec, j, mm)
                    rec = mm[x]
                n += 2
            else:
                if n + 1 == len(steps):
                    setf(S, rec, j, v)
                    return True
                if j not in rec.f:
                    setf(S, rec, j, Rec(F.t))
                rec = rec.f[j]
                n += 1

    def remove(s, m):
        if not 0 <= m < 12:
            return BAD
        if not s.m[m]:
            return NO
        i, R = s.m[m]
        S = s.sc[i]
        try:
            L = Lex(s.eat())
            steps, F, part, d = s.parse_path(S, R.k, L, False)
            L.want('END')
        except Fault as f:
            return s.flt(f)
        if s.lookup(S, R, steps) is None:
            return NO
        s.pl = NO
        W = R.copy()
        if part:
            rec = s.lookup(S, W, steps[:-2]) if len(steps) > 2 else W
            j = steps[-2][1]
            c = rec.f[j]
            del c[steps[-1][1]]
            setf(S, rec, j, c)
        else:
            rec = s.lookup(S, W, steps[:-1]) if len(steps) > 1 else W
            rec.f.pop(steps[-1][1], None)
        s.m[m] = (i, W)
        return measure(S, W)[0]

    def pairok(s, m, n):
        return s.m[m] and s.m[n] and (s.m[m][0] == s.m[n][0]) and (s.m[m][1].k == s.m[n][1].k)

    def merge(s, m, n):
        if not 0 <= m < 12 or not 0 <= n < 12:
            return BAD
        if not s.pairok(m, n):
            return NO
        i, R = s.m[m]
        S = s.sc[i]
        b = stream(S, s.m[n][1])
        W = R.copy()
        StreamR(S, b).rec(W, len(b), 1)
        if large(S, W):
            return FULL
        s.m[m] = (i, W)
        return measure(S, W)[0]

    def differ(s, m, n):
        if not 0 <= m < 12 or not 0 <= n < 12:
            return BAD
        if not s.pairok(m, n):
            return NO
        S = s.sc[s.m[m][0]]
        out = []

        def go(a, b, pre):
            T = S.types[a.k]
            for j in order(T):
                F = T.fields[j]
                x = a.f.get(j)
                y = b.f.get(j)
                if x is None and y is None:
                    continue
                if isinstance(x, Rec) and isinstance(y, Rec):
                    go(x, y, pre + F.name.v + '.')
                elif x is None or y is None or (not eqv(x, y, False)):
                    out.append(pre + F.name.v)
        go(s.m[m][1], s.m[n][1], '')
        s.paths = out
        return len(out)

    def path(s, k, r):
        if not 0 <= k < len(s.paths) or not 0 <= r < 8:
            return BAD
        s.rows[r] = s.paths[k].encode()
        return len(s.rows[r])

    def judge(s, i, a, t, b, f):
        if not 0 <= i < 4 or not 0 <= t < 4 or a < 0 or (b < 0) or (not 0 <= f <= 2):
            return BAD
        for S, k in ((s.sc[i], a), (s.sc[t], b)):
            if S and (k >= len(S.types) or not S.types[k].rec):
                return BAD
        if not s.sc[i] or not s.sc[t]:
            return NO
        v, s.wh = Judging(s.sc[i], s.sc[t], f).run(a, b)
        return v

    def where(s):
        return s.wh

    def server(s, i, v, f):
        if not 0 <= i < 4 or v < 0 or (not 0 <= f <= 2):
            return BAD
        if not s.sc[i]:
            return NO
        if v >= len(s.sc[i].services):
            return BAD
        s.noserver()
        X = Obj()
        X.s = i
        X.V = s.sc[i].services[v]
        X.f = f
        X.cells = [0] * len(X.V.cells)
        X.mem = []
        X.pend = []
        X.ran = [0] * len(X.V.calls)
        s.srv = X
        s.xid = [0] * 3
        return 1

    def client(s, c, i, v):
        if not 0 <= c < 3 or not 0 <= i < 4 or v < 0:
            return BAD
        if s.sc[i] and v >= len(s.sc[i].services):
            return BAD
        if not s.sc[i] or not s.srv:
            return NO
        X = Obj()
        X.s = i
        X.V = s.sc[i].services[v]
        X.calls = {}
        s.cl[c] = X
        return 1

    def send(s, to, fr, x, body):
        parts = [body[i:i + 48] for i in range(0, len(body), 48)]
        for p, b in enumerate(parts):
            if len(s.letters) >= 60:
                s.lost += 1
            else:
                s.letters.append((to, fr, x, p, len(parts), b))

    def invoke(s, c, j, m):
        if not 0 <= c < 3 or not 0 <= m < 12 or j < 0:
            return BAD
        C = s.cl[c]
        if C and j >= len(C.V.calls):
            return BAD
        if not C or not s.m[m]:
            return NO
        K = C.V.calls[j]
        if s.m[m][0] != C.s or s.m[m][1].k != K.ik:
            return NO
        try:
            b = write(s.sc[C.s], s.m[m][1], s.srv.f)
        except CantWrite:
            return NO
        if len(C.calls) >= 40 or len(b) + 16 > 4000:
            return FULL
        x = s.xid[c]
        s.xid[c] += 1
        body = struct.pack('>QII', fnv(H0, C.V.name.v.encode()), x, K.num.v) + b
        Q = Obj()
        Q.j = j
        Q.body = body
        Q.state = 0
        Q.code = 0
        Q.sent = 1
        Q.last = s.time
        Q.parts = {}
        Q.of = None
        Q.ans = None
        C.calls[x] = Q
        s.send(3, c, x, body)
        return x

    def letter(s, i, w):
        if not 0 <= i < len(s.letters) or w < 0:
            return BAD
        l = s.letters[i]
        if w < 5:
            return l[w]
        if w == 5:
            return len(l[5])
        return l[5][w - 6] if w - 6 < len(l[5]) else BAD

    def deliver(s, i):
        if not 0 <= i < len(s.letters):
            return BAD
        to, fr, x, p, of, b = s.letters.pop(i)
        if to == 3:
            s.atserver(fr, x, p, of, b)
        else:
            s.atclient(to, x, p, of, b)
        return len(s.letters)

    def atserver(s, fr, x, p, of, b):
        V = s.srv
        for c, y, body in V.mem:
            if (c, y) == (fr, x):
                if p == 0:
                    s.send(fr, 3, x, body)
                return
        e = next((e for e in V.pend if e[0] == (fr, x)), None)
        if e is None:
            if len(V.pend) == 4:
                V.pend.pop(0)
            e = ((fr, x), {})
        else:
            V.pend.remove(e)
        V.pend.append(e)
        e[1].setdefault(p, b)
        if len(e[1]) < of:
            return
        V.pend.remove(e)
        body = b''.join((e[1][q] for q in range(of)))
        ans = s.answer(body)
        out = struct.pack('>I', x) + ans
        V.mem.append((fr, x, out))
        if len(V.mem) > 6:
            V.mem.pop(0)
        s.send(fr, 3, x, out)

    def answer(s, body):
        V = s.srv
        S = s.sc[V.s]
        mk, x, n = struct.unpack('>QII', body[:16])
        if mk != fnv(H0, V.V.name.v.encode()):
            return struct.pack('>I', 1)
        j = next((j for j, C in enumerate(V.V.calls) if C.num.v == n), None)
        if j is None:
            return struct.pack('>I', 2)
        C = V.V.calls[j]
        try:
            R = readf(S, C.ik, body[16:], V.f)
        except Fault:
            return struct.pack('>I', 3)
        V.ran[j] += 1
        old = list(V.cells)
        out = Rec(C.ok)

        class Stop(Exception):
            pass

        def ev(e):
            o = e[0]
            if o == 'num':
                return e[1]
            if o == 'cell':
                return V.cells[e[1]]
            if o == 'in':
                F = S.types[R.k].fields[e[1]]
                v = R.f.get(e[1])
                if v is None:
                    if not F.plain:
                        return 0
                    v = F.default
                if isinstance(v, Rec):
                    return 1
                if isinstance(v, (bytes, list, dict)):
                    return len(v)
                return tolong(v)
            a = ev(e[1])
            if o == 'u-':
                return tolong(-a)
            if o == 'u!':
                return int(a == 0)
            b = ev(e[2])
            if o == '+':
                return tolong(a + b)
            if o == '-':
                return tolong(a - b)
            if o == '*':
                return tolong(a * b)
            if o in '/%':
                if b == 0:
                    raise Stop(5)
                q = abs(a) // abs(b)
                q = -q if (a < 0) != (b < 0) else q
                return tolong(q) if o == '/' else tolong(a - q * b)
            return int({'==': a == b, '!=': a != b, '<': a < b, '<=': a <= b, '>': a > b, '>=': a >= b}[o])
        try:
            for kd, t, e in C.steps:
                v = ev(e)
                if kd == 'cell':
                    V.cells[t] = v
                elif kd == 'out':
                    setf(S, out, t, low(S.types[out.k].fields[t].kind, v))
                elif v != 0:
                    raise Stop(4)
            try:
                b = write(S, out, V.f)
            except CantWrite:
                raise Stop(6)
            if len(b) + 8 > 4000:
                raise Stop(6)
            return struct.pack('>I', 0) + b
        except Stop as q:
            V.cells = old
            return struct.pack('>I', q.args[0])

    def atclient(s, c, x, p, of, b):
        C = s.cl[c]
        if not C or x not in C.calls:
            return
        Q = C.calls[x]
        if Q.state != 0:
            return
        if Q.of != of:
            Q.of = of
            Q.parts = {}
        Q.parts.setdefault(p, b)
        if len(Q.parts) < of:
            return
        body = b''.join((Q.parts[q] for q in range(of)))
        code = struct.unpack('>I', body[4:8])[0]
        if code:
            Q.state = 2
            Q.code = code
            return
        try:
            Q.ans = readf(s.sc[C.s], C.V.calls[Q.j].ok, body[8:], s.srv.f)
            Q.state = 1
        except Fault:
            Q.state = 2
            Q.code = 7

    def lose(s, i):
        if not 0 <= i < len(s.letters):
            return BAD
        s.letters.pop(i)
        return len(s.letters)

    def twice(s, i):
        if not 0 <= i < len(s.letters):
            return BAD
        if len(s.letters) >= 60:
            return FULL
        s.letters.append(s.letters[i])
        return len(s.letters)

    def tick(s, n):
        if not 1 <= n <= 100:
            return BAD
        if not s.srv:
            return NO
        for _ in range(n):
            s.time += 1
            for c in range(3):
                if not s.cl[c]:
                    continue
                for x in sorted(s.cl[c].calls):
                    Q = s.cl[c].calls[x]
                    if Q.state == 0 and s.time == Q.last + 8:
                        if Q.sent == 4:
                            Q.state = 3
                        else:
                            Q.sent += 1
                            Q.last = s.time
                            s.send(3, c, x, Q.body)
        return s.time

    def outcome(s, c, x, w):
        if not 0 <= c < 3 or not 0 <= w <= 3 or (not s.cl[c]) or (x not in s.cl[c].calls):
            return BAD
        Q = s.cl[c].calls[x]
        return [Q.state, Q.code, Q.sent, Q.j][w]

    def take(s, c, x, m):
        if not 0 <= c < 3 or not 0 <= m < 12 or (not s.cl[c]) or (x not in s.cl[c].calls):
            return BAD
        Q = s.cl[c].calls[x]
        if Q.state != 1:
            return NO
        s.m[m] = (s.cl[c].s, Q.ans.copy())
        return measure(s.sc[s.cl[c].s], Q.ans)[0]

    def cell(s, k):
        return s.srv.cells[k] if s.srv and 0 <= k < len(s.srv.cells) else 0

    def ran(s, j):
        if j < 0:
            return BAD
        if not s.srv:
            return NO
        return s.srv.ran[j] if j < len(s.srv.ran) else BAD

    def crash(s):
        if not s.srv:
            return NO
        n = len(s.srv.mem)
        s.srv.mem = []
        s.srv.pend = []
        return n

    def net(s, w):
        if not 0 <= w <= 5:
            return BAD
        if w == 0:
            return len(s.letters)
        if w == 4:
            return len(s.tape)
        if not s.srv:
            return 0
        return {1: s.time, 2: len(s.srv.mem), 3: len(s.srv.pend), 5: s.lost}[w]
