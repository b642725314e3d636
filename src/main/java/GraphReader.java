/** Reads graphs of objects from the bytes of a serial stream that may be hostile. */
public final class GraphReader {
    public static final int DONE = 0;
    public static final int REFUSED = -1;
    public static final int NULL = -2;
    public static final int END = -3;
    public static final int CORRUPT = -4;
    public static final int BAD_CLASS = -5;
    public static final int BAD_OBJECT = -6;
    public static final int OPTIONAL = -7;
    public static final int LIMIT = -8;
    public static final int UNKNOWN = -9;
    public static final int ABORTED = -10;
    public static final long NONE = -9000000000000000000L;

    private static final int MOST_DEPTH = 8;
    private static final int MOST_HANDLES = 60;
    private static final int MOST_LENGTH = 20;
    private static final int MOST_BYTES = 700;
    private static final int MOST_CLASSES = 6;
    private static final int MOST_FIELDS = 4;
    private static final int MOST_NAMES = 26;
    private static final int MOST_STREAM_FIELDS = 8;
    private static final int MOST_ABOVE_ONE_ANOTHER = 8;

    // An object or an entry costs the stream three bytes at least (an empty
    // text), so between two begins no more than these can come to be.
    private static final int ROW = MOST_BYTES / 3 + 1;

    private static final int HEADER = 0xACED0005;
    private static final int HEADER_SIZE = 4;
    private static final int FIRST_HANDLE = 0x7E0000;
    private static final int EXTRA_SIZE = 4;

    private static final int TAG_NULL = 0x70;
    private static final int TAG_REFERENCE = 0x71;
    private static final int TAG_DESCRIPTOR = 0x72;
    private static final int TAG_INSTANCE = 0x73;
    private static final int TAG_TEXT = 0x74;
    private static final int TAG_ARRAY = 0x75;
    private static final int TAG_BLOCK = 0x77;
    private static final int TAG_REST_END = 0x78;
    private static final int TAG_RESET = 0x79;
    private static final int TAG_LONG_BLOCK = 0x7A;
    private static final int TAG_ABORTED = 0x7B;
    private static final int TAG_CONSTANT = 0x7E;

    private static final int FLAG_REST = 0x01;
    private static final int FLAG_SERIAL = 0x02;
    private static final int FLAG_EXTERNAL = 0x04;
    private static final int FLAG_CONSTANT = 0x10;

    private static final int KIND_PLAIN = 0;
    private static final int KIND_CUSTOM = 2;
    private static final int KIND_CONSTANT = 3;
    private static final int KIND_RECORD = 4;

    private static final int SORT_INSTANCE = 0;
    private static final int SORT_TEXT = 1;
    private static final int SORT_INTS = 2;
    private static final int SORT_REFS = 3;
    private static final int SORT_CONSTANT = 4;

    private static final int TYPE_B = 0;
    private static final int TYPE_I = 2;
    private static final int TYPE_S = 4;
    private static final int TYPE_Z = 5;
    private static final int TYPE_INTS = 6;
    private static final int TYPE_ANY = 7;
    private static final String TYPE_SIGNS = "BCIJSZ[L";
    private static final int[] PRIMITIVE_SIZES = {1, 2, 4, 8, 2, 1};

    private static final String INTS_NAME = "[I";
    private static final String REFS_NAME = "[Ljava.lang.Object;";

    private final int depthLimit;
    private final int handleLimit;
    private final int lengthLimit;
    private final int byteLimit;
    private final LocalClass[] classes = new LocalClass[MOST_CLASSES];
    private final byte[] bytes = new byte[MOST_BYTES];
    private int byteCount;
    private int place;
    private final Thing[] heap = new Thing[ROW];
    private int heapSize;
    private final Handles handles = new Handles();
    private int lastingFault;
    private int raisedFault;

    public GraphReader(int depth, int handles, int length, int bytes) {
        depthLimit = Math.max(1, Math.min(depth, MOST_DEPTH));
        handleLimit = Math.max(1, Math.min(handles, MOST_HANDLES));
        lengthLimit = Math.max(0, Math.min(length, MOST_LENGTH));
        byteLimit = Math.max(HEADER_SIZE, Math.min(bytes, MOST_BYTES));
    }

    public int define(int number, int kind, int superclass, long id) {
        if (number < 0 || number >= MOST_CLASSES || kind < KIND_PLAIN || kind > KIND_RECORD) {
            return REFUSED;
        }
        if (superclass < -1 || superclass >= number || classes[number] != null) {
            return REFUSED;
        }
        LocalClass above = null;
        if (superclass >= 0) {
            above = classes[superclass];
            if (above == null || !mayExtend(kind, above.kind)) {
                return REFUSED;
            }
        }
        classes[number] = new LocalClass(number, kind, above, id);
        return DONE;
    }

    public int field(int number, int name, int type) {
        LocalClass owner = classNumbered(number);
        if (owner == null || owner.kind == KIND_CONSTANT || !isName(name) || type < TYPE_B || type > TYPE_ANY) {
            return REFUSED;
        }
        if (heapSize != 0 || owner.fieldCount == MOST_FIELDS || owner.indexOf(name) >= 0) {
            return REFUSED;
        }
        owner.addField(name, type);
        return owner.fieldCount;
    }

    public int constant(int number, int name, boolean on) {
        LocalClass owner = classNumbered(number);
        if (owner == null) {
            return REFUSED;
        }
        if (owner.kind != KIND_CONSTANT) {
            owner.barred = on;
            return DONE;
        }
        if (!isName(name)) {
            return REFUSED;
        }
        owner.constants |= 1 << name;
        return DONE;
    }

    public int put(long bytes, int count) {
        if (count < 1 || count > 8 || byteCount + count > MOST_BYTES) {
            return REFUSED;
        }
        for (int left = count - 1; left >= 0; left--) {
            this.bytes[byteCount] = (byte) (bytes >>> (8 * left));
            byteCount++;
        }
        return byteCount;
    }

    public int begin() {
        place = 0;
        heapSize = 0;
        handles.rewind(0, 0);
        lastingFault = 0;
        if (byteCount < HEADER_SIZE) {
            lastingFault = END;
            return END;
        }
        if ((int) numberAt(0, HEADER_SIZE) != HEADER) {
            lastingFault = CORRUPT;
            return CORRUPT;
        }
        place = HEADER_SIZE;
        return place;
    }

    public int read() {
        if (lastingFault != 0) {
            return lastingFault;
        }
        int placeBefore = place;
        int heapBefore = heapSize;
        int firstBefore = handles.first;
        int endBefore = handles.end;
        try {
            return readOutermost();
        } catch (IllegalStateException fault) {
            place = placeBefore;
            heapSize = heapBefore;
            handles.rewind(firstBefore, endBefore);
        }
        if (raisedFault != OPTIONAL) {
            lastingFault = raisedFault;
        }
        return raisedFault;
    }

    public int passBlock() {
        if (lastingFault != 0) {
            return lastingFault;
        }
        if (place >= byteCount || !isBlock(bytes[place])) {
            return REFUSED;
        }
        int placeBefore = place;
        try {
            return skipBlock();
        } catch (IllegalStateException fault) {
            place = placeBefore;
        }
        lastingFault = raisedFault;
        return raisedFault;
    }

    public int object(int object, int what) {
        if (!isInHeap(object)) {
            return REFUSED;
        }
        Thing thing = heap[object];
        switch (what) {
            case 0:
                return thing.sort;
            case 1:
                return thing.owner == null ? REFUSED : thing.owner.number;
            case 2:
                return thing.sort == SORT_CONSTANT ? thing.name : thing.values.length;
            case 3:
                return thing.extra;
            default:
                return REFUSED;
        }
    }

    public long value(int object, int k) {
        if (!isInHeap(object) || k < 0 || k >= heap[object].values.length) {
            return NONE;
        }
        return heap[object].values[k];
    }

    public int count(int what) {
        switch (what) {
            case 0:
                return place;
            case 1:
                return handles.size();
            case 2:
                return heapSize;
            case 3:
                return lastingFault;
            case 4:
                return byteCount;
            default:
                return REFUSED;
        }
    }

    private static boolean isName(int name) {
        return name >= 0 && name < MOST_NAMES;
    }

    private static boolean mayExtend(int kind, int above) {
        if (above > KIND_CUSTOM || kind > KIND_CUSTOM) {
            return false;
        }
        return kind != KIND_PLAIN || above == KIND_PLAIN;
    }

    private LocalClass classNumbered(int number) {
        return number < 0 || number >= MOST_CLASSES ? null : classes[number];
    }

    private boolean isInHeap(int object) {
        return object >= 0 && object < heapSize;
    }

    /** Leaves the read under way; the int is there only so that callers can return it. */
    private int fail(int fault) {
        raisedFault = fault;
        throw new IllegalStateException();
    }

    private long numberAt(int from, int size) {
        long number = 0;
        for (int k = from; k < from + size && k < byteCount; k++) {
            number = number << 8 | bytes[k] & 0xFF;
        }
        return number;
    }

    private long nextNumber(int size) {
        if (byteCount - place < size) {
            return fail(END);
        }
        long number = numberAt(place, size);
        place += size;
        return number;
    }

    private int nextByte() {
        return (int) nextNumber(1);
    }

    private int nextInt() {
        return (int) nextNumber(4);
    }

    /** Passes a UTF and answers where its signs begin; they end at the new place. */
    private int passUtf() {
        int length = (int) nextNumber(2);
        int from = place;
        for (int k = 0; k < length; k++) {
            if (place >= byteCount) {
                return fail(END);
            }
            if (bytes[place] <= 0) {
                return fail(CORRUPT);
            }
            place++;
        }
        return from;
    }

    private boolean isSpelt(int from, int length, String text) {
        if (length != text.length()) {
            return false;
        }
        for (int k = 0; k < length; k++) {
            if (bytes[from + k] != text.charAt(k)) {
                return false;
            }
        }
        return true;
    }

    /** How far behind the first letter a name of one sign is; below 0 for other names. */
    private int letterFrom(int from, int length, char first, int letters) {
        if (length != 1) {
            return -1;
        }
        int letter = bytes[from] - first;
        return letter < letters ? letter : -1;
    }

    private static boolean isBlock(int tag) {
        return tag == TAG_BLOCK || tag == TAG_LONG_BLOCK;
    }

    private int skipBlock() {
        int length = nextByte() == TAG_BLOCK ? nextByte() : nextInt();
        if (length < 0) {
            return fail(CORRUPT);
        }
        if (length > byteCount - place) {
            return fail(END);
        }
        place += length;
        return length;
    }

    private void passRest(int depth) {
        // Every turn passes a byte or fails, so the turns are never used up.
        for (int turn = 0; turn <= MOST_BYTES; turn++) {
            if (place >= byteCount) {
                fail(END);
            }
            int tag = bytes[place];
            if (tag == TAG_REST_END) {
                place++;
                return;
            }
            if (isBlock(tag)) {
                skipBlock();
            } else {
                readContent(depth + 1);
            }
        }
    }

    private int addThing(Thing thing) {
        if (heapSize >= ROW) {
            return fail(LIMIT);
        }
        heap[heapSize] = thing;
        heapSize++;
        return heapSize - 1;
    }

    private int addEntry(int object) {
        if (handles.end >= ROW) {
            return fail(LIMIT);
        }
        return handles.add(object);
    }

    private void askRoom(int depth) {
        if (depth > MOST_DEPTH || handles.size() > MOST_HANDLES) {
            fail(LIMIT);
        }
    }

    private void askLimits(Descriptor descriptor, int depth, int length) {
        boolean barred = descriptor.owner != null && descriptor.owner.barred;
        if (barred || depth > depthLimit || handles.size() > handleLimit || length > lengthLimit || place > byteLimit) {
            fail(LIMIT);
        }
    }

    private int readOutermost() {
        askRoom(1);
        while (place < byteCount && bytes[place] == TAG_RESET) {
            handles.rewind(handles.end, handles.end);
            place++;
        }
        return readContent(1);
    }

    private int readContent(int depth) {
        askRoom(depth);
        switch (nextByte()) {
            case TAG_NULL:
                return NULL;
            case TAG_REFERENCE:
                return readReference();
            case TAG_DESCRIPTOR:
                place--;
                readDescriptor(depth, 1);
                return NULL;
            case TAG_INSTANCE:
                return readInstance(depth);
            case TAG_TEXT:
                return readText();
            case TAG_ARRAY:
                return readArray(depth);
            case TAG_CONSTANT:
                return readConstant(depth);
            case TAG_BLOCK:
            case TAG_LONG_BLOCK:
            case TAG_REST_END:
                return fail(depth == 1 ? OPTIONAL : CORRUPT);
            case TAG_ABORTED:
                return fail(ABORTED);
            default:
                // A reset comes here only from within another read.
                return fail(CORRUPT);
        }
    }

    private int nextEntry() {
        int entry = handles.first + nextInt() - FIRST_HANDLE;
        return entry >= handles.first && entry < handles.end ? entry : fail(CORRUPT);
    }

    private int readReference() {
        int object = handles.objects[nextEntry()];
        return object == Handles.NOTHING ? fail(CORRUPT) : object;
    }

    private int readText() {
        int entry = addEntry(Handles.NOTHING);
        int from = passUtf();
        Thing text = new Thing(SORT_TEXT, null, place - from);
        for (int k = 0; k < text.values.length; k++) {
            text.values[k] = bytes[from + k];
        }
        handles.objects[entry] = addThing(text);
        return handles.objects[entry];
    }

    private int readArray(int depth) {
        Descriptor descriptor = readPresentDescriptor(depth);
        boolean ofInts = isSpelt(descriptor.nameFrom, descriptor.nameLength, INTS_NAME);
        if (!ofInts && !isSpelt(descriptor.nameFrom, descriptor.nameLength, REFS_NAME)) {
            return fail(BAD_CLASS);
        }
        int length = nextInt();
        if (length < 0) {
            return fail(BAD_OBJECT);
        }
        askLimits(descriptor, depth, length);
        Thing array = new Thing(ofInts ? SORT_INTS : SORT_REFS, null, length);
        int made = addThing(array);
        addEntry(made);
        for (int k = 0; k < length; k++) {
            array.values[k] = ofInts ? nextInt() : readContent(depth + 1);
        }
        return made;
    }

    private int readConstant(int depth) {
        Descriptor descriptor = readPresentDescriptor(depth);
        askLimits(descriptor, depth, 0);
        if (!descriptor.isConstant()) {
            return fail(BAD_CLASS);
        }
        if (descriptor.owner == null) {
            return fail(UNKNOWN);
        }
        int entry = addEntry(NULL);
        int name = constantName(readContent(depth + 1));
        if (!isName(name) || (descriptor.owner.constants >> name & 1) == 0) {
            return fail(BAD_OBJECT);
        }
        handles.objects[entry] = onlyConstant(descriptor.owner, name);
        return handles.objects[entry];
    }

    /** The name that a text of one sign tells; no name for all other objects. */
    private int constantName(int object) {
        if (!isInHeap(object)) {
            return -1;
        }
        Thing thing = heap[object];
        return thing.sort == SORT_TEXT && thing.values.length == 1 ? (int) thing.values[0] - 'a' : -1;
    }

    private int onlyConstant(LocalClass owner, int name) {
        for (int k = 0; k < heapSize; k++) {
            if (heap[k].sort == SORT_CONSTANT && heap[k].owner == owner && heap[k].name == name) {
                return k;
            }
        }
        Thing made = new Thing(SORT_CONSTANT, owner, 0);
        made.name = name;
        return addThing(made);
    }

    private int readInstance(int depth) {
        Descriptor descriptor = readPresentDescriptor(depth);
        askLimits(descriptor, depth, 0);
        if (descriptor.isConstant()) {
            return fail(BAD_CLASS);
        }
        LocalClass owner = descriptor.owner;
        if (owner == null) {
            return fail(UNKNOWN);
        }
        if (owner.kind == KIND_PLAIN || owner.kind == KIND_CONSTANT) {
            return fail(BAD_CLASS);
        }
        Thing instance = new Thing(SORT_INSTANCE, owner, owner.slotCount());
        owner.fillSlots(instance.values);
        int made = addThing(instance);
        int entry = addEntry(owner.kind == KIND_RECORD ? NULL : made);
        for (int steps = descriptor.aboveCount; steps >= 0; steps--) {
            readData(descriptor.stepsUp(steps), instance, depth);
        }
        if (owner.kind == KIND_RECORD && !isValidRecord(instance)) {
            return fail(BAD_OBJECT);
        }
        handles.objects[entry] = made;
        return made;
    }

    private static boolean isValidRecord(Thing record) {
        if (record.owner.fieldCount == 0 || record.owner.types[0] >= TYPE_INTS) {
            return true;
        }
        return record.values[0] >= 0;
    }

    private void readData(Descriptor descriptor, Thing instance, int depth) {
        LocalClass target = instance.owner.chainHas(descriptor.owner) ? descriptor.owner : null;
        for (int k = 0; k < descriptor.fieldCount; k++) {
            int type = descriptor.types[k];
            long value = type < TYPE_INTS ? nextPrimitive(type) : readContent(depth + 1);
            int slot = target == null ? -1 : target.slotOf(descriptor.names[k], type);
            if (slot >= 0) {
                if (type == TYPE_INTS && !isIntsOrNull((int) value)) {
                    fail(BAD_OBJECT);
                }
                instance.values[slot] = value;
            }
        }
        if (descriptor.has(FLAG_REST)) {
            if (target != null && target.kind == KIND_CUSTOM) {
                takeExtra(instance);
            }
            passRest(depth);
        }
    }

    private long nextPrimitive(int type) {
        long bits = nextNumber(PRIMITIVE_SIZES[type]);
        switch (type) {
            case TYPE_B:
                return (byte) bits;
            case TYPE_I:
                return (int) bits;
            case TYPE_S:
                return (short) bits;
            case TYPE_Z:
                return bits == 0 ? 0 : 1;
            default:
                return bits;
        }
    }

    private boolean isIntsOrNull(int object) {
        return object == NULL || isInHeap(object) && heap[object].sort == SORT_INTS;
    }

    /** Looks without passing: the block itself is passed, or found broken, with the rest. */
    private void takeExtra(Thing instance) {
        int from = place + 2;
        if (byteCount - from < EXTRA_SIZE || bytes[place] != TAG_BLOCK) {
            return;
        }
        if ((bytes[place + 1] & 0xFF) >= EXTRA_SIZE) {
            instance.extra = (int) numberAt(from, EXTRA_SIZE);
        }
    }

    private Descriptor readPresentDescriptor(int depth) {
        Descriptor descriptor = readDescriptor(depth, 1);
        if (descriptor == null) {
            fail(CORRUPT);
        }
        return descriptor;
    }

    /** Reads the descriptor that is the given one of those above one another, null for NULL. */
    private Descriptor readDescriptor(int depth, int oneOf) {
        int tag = nextByte();
        if (tag == TAG_NULL) {
            return null;
        }
        if (tag == TAG_REFERENCE) {
            Descriptor known = handles.descriptors[nextEntry()];
            if (known == null) {
                fail(CORRUPT);
            }
            return known;
        }
        if (tag != TAG_DESCRIPTOR || oneOf > MOST_ABOVE_ONE_ANOTHER) {
            fail(CORRUPT);
        }
        int nameFrom = passUtf();
        int nameLength = place - nameFrom;
        Descriptor made = new Descriptor(nameFrom, nameLength, nextNumber(8));
        int entry = addEntry(Handles.NOTHING);
        readFlags(made);
        readStreamFields(made, depth);
        passRest(depth);
        made.putUnder(readDescriptor(depth, oneOf + 1));
        matchLocalClass(made);
        handles.descriptors[entry] = made;
        return made;
    }

    private void readFlags(Descriptor made) {
        made.flags = nextByte();
        if (made.has(FLAG_SERIAL) && made.has(FLAG_EXTERNAL) || made.isConstant() && made.id != 0) {
            fail(BAD_CLASS);
        }
    }

    private void readStreamFields(Descriptor made, int depth) {
        int fieldCount = (int) nextNumber(2);
        if (fieldCount > MOST_STREAM_FIELDS) {
            fail(BAD_CLASS);
        }
        made.makeFields(fieldCount);
        for (int k = 0; k < fieldCount; k++) {
            int type = TYPE_SIGNS.indexOf((char) nextByte());
            if (type < 0) {
                fail(BAD_CLASS);
            }
            int nameFrom = passUtf();
            made.types[k] = type;
            made.names[k] = letterFrom(nameFrom, place - nameFrom, 'a', MOST_NAMES);
            if (type >= TYPE_INTS && !isText(readContent(depth + 1))) {
                fail(CORRUPT);
            }
        }
        if (made.isConstant() && fieldCount > 0) {
            fail(BAD_CLASS);
        }
    }

    private boolean isText(int object) {
        return isInHeap(object) && heap[object].sort == SORT_TEXT;
    }

    private void matchLocalClass(Descriptor made) {
        if (made.has(FLAG_EXTERNAL)) {
            fail(BAD_CLASS);
        }
        made.owner = classNumbered(letterFrom(made.nameFrom, made.nameLength, 'A', MOST_CLASSES));
        if (made.owner != null && !made.fits(made.owner)) {
            fail(BAD_CLASS);
        }
    }

    /** A class of this side, which streams may bring objects of. */
    private static final class LocalClass {
        final int number;
        final int kind;
        final LocalClass superclass;
        final long id;
        final int[] names = new int[MOST_FIELDS];
        final int[] types = new int[MOST_FIELDS];
        int fieldCount;
        boolean barred;
        // A bit for each name a .. z.
        int constants;

        LocalClass(int number, int kind, LocalClass superclass, long id) {
            this.number = number;
            this.kind = kind;
            this.superclass = superclass;
            this.id = id;
        }

        int indexOf(int name) {
            for (int k = 0; k < fieldCount; k++) {
                if (names[k] == name) {
                    return k;
                }
            }
            return -1;
        }

        void addField(int name, int type) {
            if (fieldCount < MOST_FIELDS) {
                names[fieldCount] = name;
                types[fieldCount] = type;
                fieldCount++;
            }
        }

        boolean chainHas(LocalClass other) {
            for (LocalClass one = this; one != null; one = one.superclass) {
                if (one == other) {
                    return true;
                }
            }
            return false;
        }

        /** The slots of a class stand behind those of all above it, whatever class the object is of. */
        int firstSlot() {
            return superclass == null ? 0 : superclass.slotCount();
        }

        int slotCount() {
            int slots = 0;
            for (LocalClass one = this; one != null; one = one.superclass) {
                slots += one.fieldCount;
            }
            return slots;
        }

        int slotOf(int name, int type) {
            int index = indexOf(name);
            return index >= 0 && types[index] == type ? firstSlot() + index : -1;
        }

        void fillSlots(long[] slots) {
            for (LocalClass one = this; one != null; one = one.superclass) {
                int first = one.firstSlot();
                for (int k = 0; k < one.fieldCount && first + k < slots.length; k++) {
                    slots[first + k] = one.valueAtFirst(one.types[k]);
                }
            }
        }

        private int valueAtFirst(int type) {
            if (type >= TYPE_INTS) {
                return NULL;
            }
            if (kind != KIND_PLAIN) {
                return 0;
            }
            return type == TYPE_Z ? 1 : 7;
        }
    }

    /** What a stream tells of a class. */
    private static final class Descriptor {
        // Bytes never change once put, so the name need not be copied.
        final int nameFrom;
        final int nameLength;
        final long id;
        int flags;
        int fieldCount;
        int[] names;
        int[] types;
        Descriptor above;
        int aboveCount;
        LocalClass owner;

        Descriptor(int nameFrom, int nameLength, long id) {
            this.nameFrom = nameFrom;
            this.nameLength = nameLength;
            this.id = id;
        }

        boolean has(int flag) {
            return (flags & flag) != 0;
        }

        boolean isConstant() {
            return has(FLAG_CONSTANT);
        }

        void makeFields(int count) {
            fieldCount = count;
            names = new int[count];
            types = new int[count];
        }

        void putUnder(Descriptor above) {
            this.above = above;
            aboveCount = above == null ? 0 : above.aboveCount + 1;
        }

        Descriptor stepsUp(int steps) {
            Descriptor one = this;
            for (int k = 0; k < steps && one.above != null; k++) {
                one = one.above;
            }
            return one;
        }

        boolean fits(LocalClass local) {
            if (isConstant() != (local.kind == KIND_CONSTANT)) {
                return false;
            }
            boolean idCounts = has(FLAG_SERIAL) && local.kind != KIND_PLAIN && local.kind != KIND_CONSTANT;
            return (!idCounts || id == local.id) && fieldsFit(local);
        }

        private boolean fieldsFit(LocalClass local) {
            for (int k = 0; k < fieldCount; k++) {
                int namesake = local.indexOf(names[k]);
                if (namesake >= 0 && types[k] != local.types[namesake]
                        && (types[k] < TYPE_INTS || local.types[namesake] < TYPE_INTS)) {
                    return false;
                }
            }
            return true;
        }
    }

    /** An object of the heap. */
    private static final class Thing {
        final int sort;
        final LocalClass owner;
        final long[] values;
        int name;
        int extra;

        Thing(int sort, LocalClass owner, int size) {
            this.sort = sort;
            this.owner = owner;
            values = new long[size];
        }
    }

    /** The handles are the entries first .. end - 1: a reset moves first on, so a fault can undo it. */
    private static final class Handles {
        static final int NOTHING = -1;
        final int[] objects = new int[ROW];
        final Descriptor[] descriptors = new Descriptor[ROW];
        int first;
        int end;

        int size() {
            return end - first;
        }

        void rewind(int first, int end) {
            this.first = first;
            this.end = end;
        }

        int add(int object) {
            objects[end] = object;
            descriptors[end] = null;
            end++;
            return end - 1;
        }
    }
}
