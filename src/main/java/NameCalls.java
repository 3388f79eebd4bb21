/**
 * Reads a small program with parameters by name, and runs it.
 *
 * The reader turns the text into a row of plain instructions, and the machine
 * runs these with rows of its own in place of Java's stack, because thirty
 * active calls with actuals worked out inside one another lie too deep for it.
 */
public final class NameCalls {
    private static final int TEXT_LIMIT = 320;
    private static final int WRITE_LIMIT = 8;
    private static final int GREATEST_CODE = 127;
    private static final int FUEL_LIMIT = 1000;
    private static final int PRINT_LIMIT = 32;
    private static final long NOT_PRINTED = 4294967296L;

    private static final int DEPTH_LIMIT = 10;
    private static final int LIST_LIMIT = 6;
    private static final int NUMBER_LIMIT = 9;
    private static final int PROCEDURE_LIMIT = 16;
    private static final int VARIABLE_LIMIT = 24;
    private static final int HELD_LIMIT = PROCEDURE_LIMIT * (1 + LIST_LIMIT) + VARIABLE_LIMIT;

    /** Two characters make three instructions at most ("+1" or "1,"), and one ends them. */
    private static final int CODE_LIMIT = TEXT_LIMIT / 2 * 3 + 8;

    private static final int CALL_LIMIT = 30;
    private static final int WAIT_LIMIT = 100;
    /** The program itself is frame 0, the active calls are the frames behind it. */
    private static final int FRAMES = CALL_LIMIT + 1;
    /** Of a frame: its result, its formals, its variables. */
    private static final int RESULT = 0;
    private static final int FIRST_FORMAL = 1;
    private static final int FIRST_VARIABLE = FIRST_FORMAL + LIST_LIMIT;
    private static final int SLOTS = FIRST_VARIABLE + VARIABLE_LIMIT;
    /**
     * An actual means something in a frame that is nearer to the program's by one call or more than the
     * frame it is used in, and a call leads away by one: so no more actuals can be open than calls.
     */
    private static final int ENTRY_LIMIT = CALL_LIMIT;
    /** A run of 1000 costs needs some 150,000 instructions at most. */
    private static final int STEP_LIMIT = 1000000;

    private static final int RUNNING = -1;
    private static final int CAME_TO_END = 0;
    private static final int OUT_OF_FUEL = 1;
    private static final int NO_TARGET = 2;
    private static final int NO_PROCEDURE = 3;
    private static final int WRONG_COUNT = 4;
    private static final int TOO_MANY_CALLS = 5;
    private static final int TOO_MANY_PRINTS = 6;
    private static final int TOO_MANY_WAITING = 7;

    /** The kinds of a declared name; a formal by value is a variable. */
    private static final int VARIABLE = 0;
    private static final int BY_NAME = 1;
    private static final int PROCEDURE = 2;

    private static final int OP_HALT = 0;
    private static final int OP_STATEMENT = 1;
    private static final int OP_BLOCK = 2;
    private static final int OP_JUMP = 3;
    private static final int OP_JUMP_IF_ZERO = 4;
    private static final int OP_PRINT = 5;
    private static final int OP_TARGET = 6;
    private static final int OP_TARGET_OF_FORMAL = 7;
    private static final int OP_TARGET_NONE = 8;
    private static final int OP_STORE = 9;
    private static final int OP_NUMBER = 10;
    private static final int OP_LOAD = 11;
    private static final int OP_FORMAL = 12;
    private static final int OP_CALL = 13;
    private static final int OP_CALL_FORMAL = 14;
    private static final int OP_CALL_NONE = 15;
    private static final int OP_KEEP = 16;
    private static final int OP_RETURN = 17;
    private static final int OP_WAIT = 18;
    private static final int OP_PLUS = 19;
    private static final int OP_MINUS = 20;
    private static final int OP_TIMES = 21;
    private static final int OP_LESS = 22;
    /** The head of an actual, never run: its first operand is the place behind the actual. */
    private static final int OP_ACTUAL = 23;
    /** The same for an actual that is a name alone. */
    private static final int OP_ACTUAL_NAME = 24;
    private static final int OP_ACTUAL_END = 25;

    private final char[] text;
    private int size;
    private final Reader reader;
    private final Machine machine;
    private Program program;
    private Program spare;
    private boolean hasProgram;

    public NameCalls() {
        text = new char[TEXT_LIMIT];
        size = 0;
        reader = new Reader();
        machine = new Machine();
        program = new Program();
        spare = new Program();
        hasProgram = false;
    }

    public int write(long chars) {
        int count = 0;
        for (int i = 0; i < WRITE_LIMIT; i++) {
            int code = codeAt(chars, i);
            if (code == 0) {
                break;
            }
            if (code > GREATEST_CODE) {
                return -1;
            }
            count++;
        }
        if (size + count > TEXT_LIMIT) {
            return -1;
        }
        for (int i = 0; i < count; i++) {
            text[size + i] = (char) codeAt(chars, i);
        }
        size += count;
        return count;
    }

    private static int codeAt(long chars, int i) {
        return (int) (chars >>> (8 * i)) & 255;
    }

    public int erase() {
        int had = size;
        size = 0;
        return had;
    }

    public int length() {
        return size;
    }

    public int read() {
        int answer = reader.readInto(spare, text, size);
        if (answer == 0) {
            // A refused text must leave the program as it is, so each text is read into the other one.
            Program old = program;
            program = spare;
            spare = old;
            hasProgram = true;
        }
        return answer;
    }

    public int run(int fuel) {
        if (!hasProgram) {
            return -1;
        }
        if (fuel < 0 || fuel > FUEL_LIMIT) {
            return -2;
        }
        return machine.runProgram(program, fuel);
    }

    public int prints() {
        return machine.printCount;
    }

    public long printed(int i) {
        return machine.printAt(i);
    }

    public int cost() {
        return machine.spent;
    }

    public int deepest() {
        return machine.frames.mostActive;
    }

    public int calls() {
        return machine.frames.opened;
    }

    public int about(int what) {
        if (!hasProgram) {
            return -1;
        }
        switch (what) {
            case 0:
                return program.procedures;
            case 1:
                return program.variables;
            case 2:
                return program.statements;
            case 3:
                return program.greatestDepth;
            default:
                return -1;
        }
    }

    /** A program as instructions, each with two operands, and what is told about it. */
    private static final class Program {
        private final int[] ops = new int[CODE_LIMIT];
        private final int[] firsts = new int[CODE_LIMIT];
        private final int[] seconds = new int[CODE_LIMIT];
        private int end;
        private final int[] starts = new int[PROCEDURE_LIMIT];
        private final int[] formalCounts = new int[PROCEDURE_LIMIT];
        private int procedures;
        private int variables;
        private int statements;
        private int greatestDepth;

        void clear() {
            end = 0;
            procedures = 0;
            variables = 0;
            statements = 0;
            greatestDepth = 0;
        }

        /** Puts an instruction behind the others and answers its place. */
        int add(int op, int first, int second) {
            int place = end;
            if (place < CODE_LIMIT) {
                ops[place] = op;
                firsts[place] = first;
                seconds[place] = second;
                end++;
            }
            return place;
        }

        void setFirst(int place, int first) {
            if (isPlace(place)) {
                firsts[place] = first;
            }
        }

        void setSecond(int place, int second) {
            if (isPlace(place)) {
                seconds[place] = second;
            }
        }

        private boolean isPlace(int place) {
            return place >= 0 && place < end && place < CODE_LIMIT;
        }

        int opAt(int place) {
            return isPlace(place) ? ops[place] : OP_HALT;
        }

        int firstAt(int place) {
            return isPlace(place) ? firsts[place] : 0;
        }

        int secondAt(int place) {
            return isPlace(place) ? seconds[place] : 0;
        }

        boolean isActual(int place) {
            return isPlace(place) && (ops[place] == OP_ACTUAL || ops[place] == OP_ACTUAL_NAME);
        }

        /** Makes one more procedure that starts here, still without formals; there must be room for it. */
        int addProcedure() {
            int procedure = procedures;
            if (procedure < PROCEDURE_LIMIT) {
                starts[procedure] = end;
                formalCounts[procedure] = 0;
                procedures++;
            }
            return procedure;
        }

        private boolean isProcedure(int procedure) {
            return procedure >= 0 && procedure < procedures && procedure < PROCEDURE_LIMIT;
        }

        void setFormalCount(int procedure, int count) {
            if (isProcedure(procedure)) {
                formalCounts[procedure] = count;
            }
        }

        int formalCountOf(int procedure) {
            return isProcedure(procedure) ? formalCounts[procedure] : 0;
        }

        int startOf(int procedure) {
            return isProcedure(procedure) ? starts[procedure] : end;
        }
    }

    /** The names that hold where the reader stands, the innermost last. */
    private static final class Scope {
        private final int[] names = new int[HELD_LIMIT];
        private final int[] kinds = new int[HELD_LIMIT];
        private final int[] levels = new int[HELD_LIMIT];
        private final int[] slots = new int[HELD_LIMIT];
        private int held;
        /** How many procedure bodies the place lies in, and which one at each level. */
        private int level;
        private final int[] bodies = new int[DEPTH_LIMIT + 1];
        private int nextSlot;

        void clear() {
            held = 0;
            level = 0;
            nextSlot = FIRST_VARIABLE;
        }

        /** Answers false if the name is among those from mark on, which belong to the same block or formals. */
        boolean declare(int name, int kind, int slot, int mark) {
            boolean fresh = true;
            for (int i = Math.max(mark, 0); i < held && i < HELD_LIMIT; i++) {
                if (names[i] == name) {
                    fresh = false;
                }
            }
            if (held < HELD_LIMIT) {
                names[held] = name;
                kinds[held] = kind;
                levels[held] = level;
                slots[held] = slot;
                held++;
            }
            return fresh;
        }

        /** The innermost entry of the name, or -1. */
        int find(int name) {
            for (int i = Math.min(held, HELD_LIMIT) - 1; i >= 0; i--) {
                if (names[i] == name) {
                    return i;
                }
            }
            return -1;
        }

        private boolean isEntry(int entry) {
            return entry >= 0 && entry < held && entry < HELD_LIMIT;
        }

        int kindOf(int entry) {
            return isEntry(entry) ? kinds[entry] : VARIABLE;
        }

        int slotOf(int entry) {
            return isEntry(entry) ? slots[entry] : RESULT;
        }

        /** How many frames outwards the entry's frame is. */
        int hopsTo(int entry) {
            return isEntry(entry) ? level - levels[entry] : 0;
        }

        void enterBody(int procedure) {
            level++;
            if (level >= 0 && level <= DEPTH_LIMIT) {
                bodies[level] = procedure;
            }
            nextSlot = FIRST_VARIABLE;
        }

        /** Whether the entry is a procedure whose body the place lies in. */
        boolean isAroundHere(int entry) {
            if (!isEntry(entry) || kinds[entry] != PROCEDURE) {
                return false;
            }
            int inner = levels[entry] + 1;
            return inner >= 1 && inner <= level && inner <= DEPTH_LIMIT && bodies[inner] == slots[entry];
        }
    }

    /** Reads the text; its methods answer false where the text is not as said or beyond a limit. */
    private static final class Reader {
        private char[] text;
        private int size;
        private int at;
        private Program program;
        private final Scope scope = new Scope();
        private boolean namesHold;

        int readInto(Program target, char[] chars, int count) {
            program = target;
            text = chars;
            program.clear();
            scope.clear();
            size = Math.min(count, text.length);
            at = 0;
            namesHold = true;
            if (!statement(1) || look() != 0) {
                return -1;
            }
            program.add(OP_HALT, 0, 0);
            return namesHold ? 0 : -2;
        }

        /** The next symbol's character, 0 behind the last. */
        private int look() {
            while (at < size && (text[at] == ' ' || text[at] == 10)) {
                at++;
            }
            return at < size ? text[at] : 0;
        }

        private boolean take(int symbol) {
            if (look() != symbol) {
                return false;
            }
            at++;
            return true;
        }

        /** The name that stands here, 0 if none does. */
        private int takeName() {
            int symbol = look();
            if (symbol < 'a' || symbol > 'z') {
                return 0;
            }
            at++;
            return symbol;
        }

        private boolean reach(int depth) {
            program.greatestDepth = Math.max(program.greatestDepth, depth);
            return depth <= DEPTH_LIMIT;
        }

        private boolean statement(int depth) {
            if (!reach(depth)) {
                return false;
            }
            program.statements++;
            if (take('{')) {
                return block(depth);
            }
            if (take('!')) {
                return print(depth);
            }
            if (take('?')) {
                return choice(depth);
            }
            if (take('*')) {
                return loop(depth);
            }
            int name = takeName();
            if (name == 0) {
                return false;
            }
            if (take('=')) {
                return assignment(name, depth);
            }
            addUse(name, OP_CALL_NONE, OP_CALL_FORMAL, OP_CALL);
            return take('(') && list(depth + 1) && take(';');
        }

        private boolean assignment(int name, int depth) {
            addTarget(name);
            if (!expression(depth + 1) || !take(';')) {
                return false;
            }
            program.add(OP_STORE, 0, 0);
            return true;
        }

        private boolean print(int depth) {
            program.add(OP_STATEMENT, 0, 0);
            if (!expression(depth + 1) || !take(';')) {
                return false;
            }
            program.add(OP_PRINT, 0, 0);
            return true;
        }

        private boolean choice(int depth) {
            program.add(OP_STATEMENT, 0, 0);
            if (!take('(') || !expression(depth + 1) || !take(')')) {
                return false;
            }
            int toSecond = program.add(OP_JUMP_IF_ZERO, 0, 0);
            if (!statement(depth + 1)) {
                return false;
            }
            int toEnd = program.add(OP_JUMP, 0, 0);
            program.setFirst(toSecond, program.end);
            if (!statement(depth + 1)) {
                return false;
            }
            program.setFirst(toEnd, program.end);
            return true;
        }

        private boolean loop(int depth) {
            program.add(OP_STATEMENT, 0, 0);
            int again = program.end;
            if (!take('(') || !expression(depth + 1) || !take(')')) {
                return false;
            }
            int toEnd = program.add(OP_JUMP_IF_ZERO, 0, 0);
            if (!statement(depth + 1)) {
                return false;
            }
            program.add(OP_JUMP, again, 0);
            program.setFirst(toEnd, program.end);
            return true;
        }

        private boolean block(int depth) {
            int mark = scope.held;
            int firstSlot = scope.nextSlot;
            int start = program.add(OP_BLOCK, firstSlot, 0);
            if (!declarations(depth, mark)) {
                return false;
            }
            program.setSecond(start, scope.nextSlot - firstSlot);
            for (int i = 0; i <= TEXT_LIMIT; i++) {
                if (take('}')) {
                    scope.held = mark;
                    return true;
                }
                if (!statement(depth + 1)) {
                    return false;
                }
            }
            return false;
        }

        private boolean declarations(int depth, int mark) {
            for (int i = 0; i <= TEXT_LIMIT; i++) {
                if (take('$')) {
                    if (!variable(mark)) {
                        return false;
                    }
                } else if (take('@')) {
                    if (!procedure(depth, mark)) {
                        return false;
                    }
                } else {
                    return true;
                }
            }
            return false;
        }

        private boolean variable(int mark) {
            int name = takeName();
            if (name == 0 || !take(';') || program.variables >= VARIABLE_LIMIT) {
                return false;
            }
            program.variables++;
            declare(name, VARIABLE, scope.nextSlot, mark);
            scope.nextSlot++;
            return true;
        }

        private boolean procedure(int depth, int mark) {
            int name = takeName();
            if (name == 0 || !take('(') || program.procedures >= PROCEDURE_LIMIT) {
                return false;
            }
            int past = program.add(OP_JUMP, 0, 0);
            int procedure = program.addProcedure();
            declare(name, PROCEDURE, procedure, mark);
            int outerHeld = scope.held;
            int outerSlot = scope.nextSlot;
            scope.enterBody(procedure);
            if (!formals(procedure) || !statement(depth + 1)) {
                return false;
            }
            scope.level--;
            scope.nextSlot = outerSlot;
            scope.held = outerHeld;
            program.add(OP_RETURN, 0, 0);
            program.setFirst(past, program.end);
            return true;
        }

        private boolean formals(int procedure) {
            if (take(')')) {
                return true;
            }
            int mark = scope.held;
            for (int i = 0; i < LIST_LIMIT; i++) {
                boolean byValue = take('#');
                int name = takeName();
                if (name == 0) {
                    return false;
                }
                int slot = FIRST_FORMAL + i;
                declare(name, byValue ? VARIABLE : BY_NAME, slot, mark);
                program.setFormalCount(procedure, i + 1);
                if (byValue) {
                    // A call hands over all actuals by name; the body's first work is to fix these.
                    program.add(OP_FORMAL, slot, 0);
                    program.add(OP_KEEP, slot, 0);
                }
                if (take(')')) {
                    return true;
                }
                if (!take(',')) {
                    return false;
                }
            }
            return false;
        }

        private boolean expression(int depth) {
            if (!reach(depth) || !sum(depth)) {
                return false;
            }
            if (!take('<')) {
                return true;
            }
            program.add(OP_WAIT, 0, 0);
            if (!sum(depth)) {
                return false;
            }
            program.add(OP_LESS, 0, 0);
            return true;
        }

        private boolean sum(int depth) {
            if (!product(depth)) {
                return false;
            }
            for (int i = 0; i <= TEXT_LIMIT; i++) {
                boolean plus = take('+');
                if (!plus && !take('-')) {
                    return true;
                }
                program.add(OP_WAIT, 0, 0);
                if (!product(depth)) {
                    return false;
                }
                program.add(plus ? OP_PLUS : OP_MINUS, 0, 0);
            }
            return false;
        }

        private boolean product(int depth) {
            if (!factor(depth)) {
                return false;
            }
            for (int i = 0; i <= TEXT_LIMIT; i++) {
                if (!take('*')) {
                    return true;
                }
                program.add(OP_WAIT, 0, 0);
                if (!factor(depth)) {
                    return false;
                }
                program.add(OP_TIMES, 0, 0);
            }
            return false;
        }

        private boolean factor(int depth) {
            if (take('(')) {
                return expression(depth + 1) && take(')');
            }
            int name = takeName();
            if (name == 0) {
                return number();
            }
            if (!take('(')) {
                addUse(name, OP_LOAD, OP_FORMAL, OP_CALL);
                return true;
            }
            addUse(name, OP_CALL_NONE, OP_CALL_FORMAL, OP_CALL);
            return list(depth + 1);
        }

        /** A tenth digit is left standing, and refused there, as no digit may stand behind a number. */
        private boolean number() {
            int digits = 0;
            int value = 0;
            int symbol = look();
            while (digits < NUMBER_LIMIT && symbol >= '0' && symbol <= '9') {
                value = value * 10 + (symbol - '0');
                digits++;
                at++;
                symbol = at < size ? text[at] : 0;
            }
            program.add(OP_NUMBER, value, 0);
            return digits > 0;
        }

        /** The expressions behind an opened parenthesis, up to the closing one. */
        private boolean list(int depth) {
            if (take(')')) {
                return true;
            }
            for (int i = 0; i < LIST_LIMIT; i++) {
                int head = program.add(isNameAlone() ? OP_ACTUAL_NAME : OP_ACTUAL, 0, 0);
                if (!expression(depth)) {
                    return false;
                }
                program.add(OP_ACTUAL_END, 0, 0);
                program.setFirst(head, program.end);
                if (take(')')) {
                    return true;
                }
                if (!take(',')) {
                    return false;
                }
            }
            return false;
        }

        private boolean isNameAlone() {
            int start = at;
            boolean alone = false;
            if (takeName() != 0) {
                int behind = look();
                alone = behind == ',' || behind == ')';
            }
            at = start;
            return alone;
        }

        private void declare(int name, int kind, int slot, int mark) {
            if (!scope.declare(name, kind, slot, mark)) {
                namesHold = false;
            }
        }

        /** Adds the instruction that fits what the name is, with its slot or procedure and its hops. */
        private void addUse(int name, int ofVariable, int ofFormal, int ofProcedure) {
            int entry = scope.find(name);
            if (entry < 0) {
                namesHold = false;
            }
            int kind = scope.kindOf(entry);
            int op = kind == VARIABLE ? ofVariable : kind == BY_NAME ? ofFormal : ofProcedure;
            program.add(op, scope.slotOf(entry), scope.hopsTo(entry));
        }

        private void addTarget(int name) {
            int entry = scope.find(name);
            if (scope.isAroundHere(entry)) {
                // The procedure's own frame is one level further in than the frame that it is declared in.
                program.add(OP_TARGET, RESULT, scope.hopsTo(entry) - 1);
            } else {
                addUse(name, OP_TARGET, OP_TARGET_OF_FORMAL, OP_TARGET_NONE);
            }
        }
    }

    /** The program's frame and those of the active calls. */
    private static final class Frames {
        private final int[] slots = new int[FRAMES * SLOTS];
        /** The frame around the procedure's declaration. */
        private final int[] outers = new int[FRAMES];
        /** The frame in which the actuals mean what they mean. */
        private final int[] callers = new int[FRAMES];
        private final int[] returns = new int[FRAMES];
        /** The address that the assignment under way in the frame stores to. */
        private final int[] targets = new int[FRAMES];
        private int active;
        private int mostActive;
        private int opened;

        void clear() {
            active = 0;
            mostActive = 0;
            opened = 0;
        }

        /** Makes the frame of one more call; there must be room for it. */
        void open(int outer, int caller, int returnPlace) {
            if (active < 0 || active >= CALL_LIMIT) {
                return;
            }
            active++;
            opened++;
            mostActive = Math.max(mostActive, active);
            outers[active] = outer;
            callers[active] = caller;
            returns[active] = returnPlace;
            setValue(addressOf(active, RESULT), 0);
        }

        void close() {
            if (active > 0) {
                active--;
            }
        }

        private boolean isFrame(int frame) {
            return frame >= 0 && frame < FRAMES;
        }

        int outwards(int frame, int hops) {
            int reached = frame;
            for (int i = 0; i < hops && i < DEPTH_LIMIT; i++) {
                reached = isFrame(reached) ? outers[reached] : 0;
            }
            return reached;
        }

        int callerOf(int frame) {
            return isFrame(frame) ? callers[frame] : 0;
        }

        int returnOf(int frame) {
            return isFrame(frame) ? returns[frame] : 0;
        }

        int addressOf(int frame, int slot) {
            return frame * SLOTS + slot;
        }

        int valueAt(int address) {
            return address >= 0 && address < slots.length ? slots[address] : 0;
        }

        void setValue(int address, int value) {
            if (address >= 0 && address < slots.length) {
                slots[address] = value;
            }
        }

        void setTarget(int frame, int address) {
            if (isFrame(frame)) {
                targets[frame] = address;
            }
        }

        int targetOf(int frame) {
            return isFrame(frame) ? targets[frame] : 0;
        }
    }

    /** Runs a program and keeps what the latest run did. */
    private static final class Machine {
        private Program program;
        private int fuel;
        private int spent;
        private int ending;
        /** The next instruction, the frame in which its names mean something, and the value worked out last. */
        private int place;
        private int frame;
        private int value;
        private final Frames frames = new Frames();
        /** Where to go on behind the actuals that are being worked out. */
        private final int[] entryPlaces = new int[ENTRY_LIMIT];
        private final int[] entryFrames = new int[ENTRY_LIMIT];
        private int entries;
        private final int[] waits = new int[WAIT_LIMIT];
        private int waiting;
        private final int[] printValues = new int[PRINT_LIMIT];
        private int printCount;
        /** The frame in which the name that resolve() found means something. */
        private int resolvedFrame;

        int runProgram(Program toRun, int withFuel) {
            program = toRun;
            fuel = withFuel;
            spent = 0;
            ending = RUNNING;
            place = 0;
            frame = 0;
            value = 0;
            frames.clear();
            entries = 0;
            waiting = 0;
            printCount = 0;
            for (int i = 0; i < STEP_LIMIT && ending == RUNNING; i++) {
                step();
            }
            if (ending == RUNNING) {
                ending = OUT_OF_FUEL;
            }
            return ending;
        }

        long printAt(int i) {
            return i >= 0 && i < printCount && i < PRINT_LIMIT ? printValues[i] : NOT_PRINTED;
        }

        private void step() {
            int op = program.opAt(place);
            int first = program.firstAt(place);
            int second = program.secondAt(place);
            place++;
            if (op >= OP_WAIT && op <= OP_LESS) {
                operate(op);
            } else if (op >= OP_TARGET && op <= OP_STORE) {
                assign(op, first, second);
            } else if (op >= OP_NUMBER && op <= OP_FORMAL) {
                workOut(op, first, second);
            } else if (op >= OP_CALL && op <= OP_CALL_NONE) {
                call(op, first, second);
            } else {
                control(op, first, second);
            }
        }

        private void control(int op, int first, int second) {
            switch (op) {
                case OP_STATEMENT:
                    pay();
                    break;
                case OP_BLOCK:
                    beginBlock(first, second);
                    break;
                case OP_JUMP:
                    place = first;
                    break;
                case OP_JUMP_IF_ZERO:
                    if (value == 0) {
                        place = first;
                    }
                    break;
                case OP_PRINT:
                    printValue();
                    break;
                case OP_KEEP:
                    frames.setValue(frames.addressOf(frame, first), value);
                    break;
                case OP_RETURN:
                    leaveCall();
                    break;
                case OP_ACTUAL_END:
                    leaveActual();
                    break;
                default:
                    ending = CAME_TO_END;
                    break;
            }
        }

        /** Puts 1 on the cost, or ends the run if the fuel is used up. */
        private boolean pay() {
            if (spent >= fuel) {
                ending = OUT_OF_FUEL;
                return false;
            }
            spent++;
            return true;
        }

        private void beginBlock(int firstSlot, int count) {
            if (!pay()) {
                return;
            }
            for (int i = 0; i < count && i < VARIABLE_LIMIT; i++) {
                frames.setValue(frames.addressOf(frame, firstSlot + i), 0);
            }
        }

        private void printValue() {
            if (printCount >= PRINT_LIMIT) {
                ending = TOO_MANY_PRINTS;
                return;
            }
            printValues[printCount] = value;
            printCount++;
        }

        private void assign(int op, int first, int second) {
            if (op == OP_STORE) {
                frames.setValue(frames.targetOf(frame), value);
                return;
            }
            if (!pay()) {
                return;
            }
            int holder = frames.outwards(frame, second);
            if (op == OP_TARGET) {
                frames.setTarget(frame, frames.addressOf(holder, first));
                return;
            }
            int found = op == OP_TARGET_OF_FORMAL ? resolve(holder, first) : -1;
            if (program.opAt(found) != OP_LOAD) {
                ending = NO_TARGET;
                return;
            }
            int owner = frames.outwards(resolvedFrame, program.secondAt(found));
            frames.setTarget(frame, frames.addressOf(owner, program.firstAt(found)));
        }

        /**
         * Follows a formal by name, as long as its actual is again a formal by name alone: the place
         * of the name that stands for it in the end, or -1 if an actual on the way is no name alone.
         */
        private int resolve(int holder, int slot) {
            int formalFrame = holder;
            int formalSlot = slot;
            for (int i = 0; i < FRAMES; i++) {
                int head = frames.valueAt(frames.addressOf(formalFrame, formalSlot));
                if (program.opAt(head) != OP_ACTUAL_NAME) {
                    return -1;
                }
                int name = head + 1;
                resolvedFrame = frames.callerOf(formalFrame);
                if (program.opAt(name) != OP_FORMAL) {
                    return name;
                }
                formalFrame = frames.outwards(resolvedFrame, program.secondAt(name));
                formalSlot = program.firstAt(name);
            }
            return -1;
        }

        private void workOut(int op, int first, int second) {
            int holder = frames.outwards(frame, second);
            if (op == OP_FORMAL) {
                enterActual(holder, first);
            } else if (pay()) {
                value = op == OP_LOAD ? frames.valueAt(frames.addressOf(holder, first)) : first;
            }
        }

        private void enterActual(int holder, int slot) {
            if (entries < 0 || entries >= ENTRY_LIMIT) {
                ending = TOO_MANY_CALLS;
                return;
            }
            entryPlaces[entries] = place;
            entryFrames[entries] = frame;
            entries++;
            place = frames.valueAt(frames.addressOf(holder, slot)) + 1;
            frame = frames.callerOf(holder);
        }

        private void leaveActual() {
            if (entries > 0 && entries <= ENTRY_LIMIT) {
                entries--;
                place = entryPlaces[entries];
                frame = entryFrames[entries];
            }
        }

        /** A call as a statement costs 1 as that, one in an expression 1 as a call: either way it is paid for here. */
        private void call(int op, int first, int second) {
            if (!pay()) {
                return;
            }
            int holder = frames.outwards(frame, second);
            if (op == OP_CALL) {
                enterCall(first, holder);
                return;
            }
            int found = op == OP_CALL_FORMAL ? resolve(holder, first) : -1;
            if (program.opAt(found) != OP_CALL) {
                ending = NO_PROCEDURE;
                return;
            }
            enterCall(program.firstAt(found), frames.outwards(resolvedFrame, program.secondAt(found)));
        }

        /** The heads of the actuals stand behind the call, each with the place of the next. */
        private void enterCall(int procedure, int outer) {
            int count = 0;
            int behind = place;
            while (count < LIST_LIMIT && program.isActual(behind)) {
                count++;
                behind = program.firstAt(behind);
            }
            if (count != program.formalCountOf(procedure)) {
                ending = WRONG_COUNT;
                return;
            }
            if (frames.active >= CALL_LIMIT) {
                ending = TOO_MANY_CALLS;
                return;
            }
            frames.open(outer, frame, behind);
            int head = place;
            for (int i = 0; i < count; i++) {
                frames.setValue(frames.addressOf(frames.active, FIRST_FORMAL + i), head);
                head = program.firstAt(head);
            }
            frame = frames.active;
            place = program.startOf(procedure);
        }

        private void leaveCall() {
            int left = frames.active;
            value = frames.valueAt(frames.addressOf(left, RESULT));
            place = frames.returnOf(left);
            frame = frames.callerOf(left);
            frames.close();
        }

        private void operate(int op) {
            if (op == OP_WAIT) {
                beginToWait();
                return;
            }
            if (waiting <= 0 || waiting > WAIT_LIMIT) {
                return;
            }
            waiting--;
            int left = waits[waiting];
            if (op == OP_PLUS) {
                value = left + value;
            } else if (op == OP_MINUS) {
                value = left - value;
            } else if (op == OP_TIMES) {
                value = left * value;
            } else {
                value = left < value ? 1 : 0;
            }
        }

        private void beginToWait() {
            if (waiting < 0 || waiting >= WAIT_LIMIT) {
                ending = TOO_MANY_WAITING;
                return;
            }
            waits[waiting] = value;
            waiting++;
        }
    }
}
