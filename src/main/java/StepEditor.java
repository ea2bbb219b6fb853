/**
 * A structured editor for several people: documents that are valid by content rules, changes as
 * steps, an authority that confirms steps in order, and clients that map their own steps over them.
 *
 * <p>All rows are made once, by the constructors, and used again by every call.
 */
public final class StepEditor {
    private static final int MAX_TOKENS = 60;
    private static final int MAX_CONFIRMED = 60;
    private static final int MAX_PENDING = 10;
    private static final int MAX_COMMENTS = 10;
    private static final int MAX_MAPS = MAX_PENDING + MAX_CONFIRMED + MAX_PENDING;
    private static final int MAX_RANGES = 2;

    private static final int CLIENTS = 3;
    private static final int AUTHORITY = 3;

    private static final int CLOSE = 0;
    private static final int PARAGRAPH = 1;
    private static final int LAST_TYPE = 5;
    private static final int CHARACTER_KIND = 6;
    private static final int FIRST_CHARACTER = 100;
    private static final int LETTERS = 26;
    private static final int MARKS = 2;
    private static final int NONE = -1;

    private static final int TYPES = 6;
    private static final int ELEMENTS = 3;
    private static final int LAST_KINDS = 126;
    private static final int JUST_ONE = 0;
    private static final int AT_MOST_ONE = 1;
    private static final int ANY_NUMBER = 2;
    private static final int AT_LEAST_ONE = 3;

    /** The kinds of the elements that the rules have at first, three elements for each type. */
    private static final int[] FIRST_KINDS = {
        54, 0, 0,
        64, 0, 0,
        8, 0, 0,
        2, 6, 0,
        6, 0, 0,
        2, 22, 0
    };

    /** The quantities that go with FIRST_KINDS. */
    private static final int[] FIRST_QUANTITIES = {
        AT_LEAST_ONE, 0, 0,
        ANY_NUMBER, 0, 0,
        AT_LEAST_ONE, 0, 0,
        JUST_ONE, ANY_NUMBER, 0,
        AT_LEAST_ONE, 0, 0,
        JUST_ONE, ANY_NUMBER, 0
    };

    private final Grammar grammar = new Grammar();
    private final Tokens confirmed = new Tokens();
    private final Step[] log = new Step[MAX_CONFIRMED];
    private int confirmedCount;
    private final Client[] clients = new Client[CLIENTS];
    private final int[] commentStarts = new int[MAX_COMMENTS];
    private final int[] commentEnds = new int[MAX_COMMENTS];
    private int commentCount;

    /** The step that the call at hand makes; it is copied where it is kept. */
    private final Step draft = new Step();
    /** The document that the call at hand tries. */
    private final Tokens trial = new Tokens();
    /** The document that isBuilt builds anew. */
    private final Tokens built = new Tokens();
    /** The steps that a receiving client keeps; the row still needs the former ones meanwhile. */
    private final Step[] mapped = new Step[MAX_PENDING];
    private final MapRow row = new MapRow();
    private final Place place = new Place();
    private final int[] openTypes = new int[MAX_TOKENS];

    /** Creates an authority and clients with one empty paragraph. */
    public StepEditor() {
        for (int i = 0; i < log.length; i++) {
            log[i] = new Step();
        }
        for (int i = 0; i < mapped.length; i++) {
            mapped[i] = new Step();
        }
        for (int i = 0; i < clients.length; i++) {
            clients[i] = new Client();
        }
        confirmed.becomeFirst();
    }

    // ---- rules

    /** Sets an element of a rule. */
    public void rule(int type, int element, int kinds, int quantity)
            throws IndexOutOfBoundsException, IllegalArgumentException, IllegalStateException {
        if (type < 0 || type >= TYPES) {
            throw new IndexOutOfBoundsException("no such type");
        }
        if (element < 0 || element >= ELEMENTS) {
            throw new IllegalArgumentException("element out of range");
        }
        if (kinds < 0 || kinds > LAST_KINDS || (kinds & 1) != 0) {
            throw new IllegalArgumentException("kinds out of range");
        }
        if (quantity < JUST_ONE || quantity > AT_LEAST_ONE) {
            throw new IllegalArgumentException("quantity out of range");
        }
        if (confirmedCount > 0 || isAnyPending()) {
            throw new IllegalStateException("there are steps already");
        }
        if (!isFirstValidWith(type, element, kinds, quantity)) {
            throw new IllegalStateException("the first document would not be valid");
        }
        grammar.setElement(type, element, kinds, quantity);
    }

    // ---- edits

    /** Types a character without marks; answers the number of tokens then. */
    public int type(int client, int position, int letter)
            throws IndexOutOfBoundsException, IllegalStateException {
        Client who = clientOf(client);
        checkPosition(who.document, position);
        if (letter < 0 || letter >= LETTERS) {
            throw new IndexOutOfBoundsException("no such letter");
        }
        draft.becomeChange();
        draft.addRange(position, 0);
        draft.addPut(FIRST_CHARACTER + 4 * letter);
        addPending(who);
        return who.document.count;
    }

    /** Erases tokens; answers the number of tokens then. */
    public int erase(int client, int from, int to)
            throws IndexOutOfBoundsException, IllegalArgumentException, IllegalStateException {
        Client who = clientOf(client);
        checkStretch(who.document, from, to);
        draft.becomeChange();
        draft.addRange(from, to - from);
        addPending(who);
        return who.document.count;
    }

    /** Splits the node around a position; answers its type. */
    public int split(int client, int position)
            throws IndexOutOfBoundsException, IllegalStateException {
        Client who = clientOf(client);
        checkPosition(who.document, position);
        int depth = who.document.findOpen(position, openTypes);
        int type = innermost(depth);
        if (depth == 0) {
            throw new IllegalStateException("the position is in no node");
        }
        draft.becomeChange();
        draft.addRange(position, 0);
        draft.addPut(CLOSE);
        draft.addPut(type);
        addPending(who);
        return type;
    }

    /** Joins the two nodes that meet at a position; answers the type of the second one. */
    public int join(int client, int position)
            throws IndexOutOfBoundsException, IllegalStateException {
        Client who = clientOf(client);
        checkPosition(who.document, position);
        int type = who.document.at(position);
        if (who.document.at(position - 1) != CLOSE || !isOpening(type)) {
            throw new IllegalStateException("no two nodes are side by side there");
        }
        draft.becomeChange();
        draft.addRange(position - 1, 2);
        addPending(who);
        return type;
    }

    /** Wraps tokens in a node; answers the number of tokens then. */
    public int wrap(int client, int from, int to, int type)
            throws IndexOutOfBoundsException, IllegalArgumentException, IllegalStateException {
        Client who = clientOf(client);
        checkNodeType(type);
        checkStretch(who.document, from, to);
        draft.becomeChange();
        draft.addRange(from, 0);
        draft.addPut(type);
        draft.addRange(to, 0);
        draft.addPut(CLOSE);
        addPending(who);
        return who.document.count;
    }

    /** Unwraps the node that is opened at a position; answers its type. */
    public int unwrap(int client, int position)
            throws IndexOutOfBoundsException, IllegalStateException {
        Client who = clientOf(client);
        checkPosition(who.document, position);
        int type = who.document.at(position);
        int closing = who.document.findClosing(position);
        if (closing == NONE) {
            throw new IllegalStateException("no node is opened there");
        }
        draft.becomeChange();
        draft.addRange(position, 1);
        draft.addRange(closing, 1);
        addPending(who);
        return type;
    }

    /** Gives the node that is opened at a position another type; answers its type before. */
    public int setType(int client, int position, int type)
            throws IndexOutOfBoundsException, IllegalStateException {
        Client who = clientOf(client);
        checkPosition(who.document, position);
        checkNodeType(type);
        int former = who.document.at(position);
        if (!isOpening(former) || former == type) {
            throw new IllegalStateException("no node of another type is opened there");
        }
        draft.becomeChange();
        draft.addRange(position, 1);
        draft.addPut(type);
        addPending(who);
        return former;
    }

    /** Sets or clears a mark between two positions; answers how many characters there are. */
    public int mark(int client, int from, int to, int mark, boolean isSet)
            throws IndexOutOfBoundsException, IllegalArgumentException, IllegalStateException {
        Client who = clientOf(client);
        if (mark < 0 || mark >= MARKS) {
            throw new IndexOutOfBoundsException("no such mark");
        }
        checkStretch(who.document, from, to);
        draft.becomeMarking(from, to, mark + 1, isSet);
        if (!draft.changesMarks(who.document)) {
            throw new IllegalStateException("no character would be changed");
        }
        addPending(who);
        return who.document.countCharacters(from, to);
    }

    /** Copies a slice; answers the number of its tokens, those that were added included. */
    public int copy(int client, int from, int to)
            throws IndexOutOfBoundsException, IllegalArgumentException {
        Client who = clientOf(client);
        checkStretch(who.document, from, to);
        int depth = who.document.findOpen(from, openTypes);
        int level = depth;
        int lowest = depth;
        for (int i = from; i < to; i++) {
            level += depthChange(who.document.at(i));
            lowest = Math.min(lowest, level);
        }
        who.copied.clear();
        for (int i = Math.max(lowest, 0); i < depth && i < openTypes.length; i++) {
            who.copied.add(openTypes[i]);
        }
        who.copied.addSlice(who.document, from, to);
        for (int i = lowest; i < level; i++) {
            who.copied.add(CLOSE);
        }
        return who.copied.count;
    }

    /** Pastes what a client has copied; answers how many tokens are put. */
    public int paste(int client, int position)
            throws IndexOutOfBoundsException, IllegalStateException {
        Client who = clientOf(client);
        checkPosition(who.document, position);
        if (who.copied.count == 0) {
            throw new IllegalStateException("nothing was copied");
        }
        if (!draftsBare(who, position) && !draftsWrapped(who, position)) {
            throw new IllegalStateException("nothing fits there");
        }
        addPending(who);
        return draft.putTokens.count;
    }

    /** Takes the last pending step of a client back; answers how many are pending then. */
    public int takeBack(int client) throws IndexOutOfBoundsException, IllegalStateException {
        Client who = clientOf(client);
        if (who.pendingCount == 0) {
            throw new IllegalStateException("no step is pending");
        }
        who.pendingCount--;
        who.document.become(who.base);
        for (int i = 0; i < who.pendingCount && i < who.pending.length; i++) {
            if (who.pending[i].applyTo(who.document, trial)) {
                who.document.become(trial);
            }
        }
        return who.pendingCount;
    }

    /** Reverts a confirmed step; answers the number of tokens then. */
    public int revert(int client, int step)
            throws IndexOutOfBoundsException, IllegalStateException {
        Client who = clientOf(client);
        if (step < 0 || step >= who.versionCount || step >= log.length) {
            throw new IndexOutOfBoundsException("no such step");
        }
        draft.becomeInverse(log[step]);
        row.clear();
        addConfirmedMaps(step + 1, who.versionCount);
        for (int i = 0; i < who.pendingCount && i < who.pending.length; i++) {
            row.addMap(who.pending[i], false);
        }
        if (!row.carryStep(draft, 0)) {
            throw new IllegalStateException("the inverse is dropped");
        }
        addPending(who);
        return who.document.count;
    }

    // ---- the authority

    /** Sends; answers how many steps are confirmed by that. */
    public int send(int client) throws IndexOutOfBoundsException, IllegalStateException {
        Client who = clientOf(client);
        if (who.versionCount != confirmedCount) {
            throw new IllegalStateException("the client does not have the version of the authority");
        }
        if (confirmedCount + who.pendingCount > MAX_CONFIRMED) {
            throw new IllegalStateException("the log would be too long");
        }
        int sent = who.pendingCount;
        for (int i = 0; i < sent && i < who.pending.length; i++) {
            confirm(who.pending[i]);
        }
        who.pendingCount = 0;
        who.versionCount = confirmedCount;
        who.base.become(confirmed);
        return sent;
    }

    /** Receives; answers how many confirmed steps the client receives. */
    public int receive(int client) throws IndexOutOfBoundsException {
        Client who = clientOf(client);
        int received = confirmedCount - who.versionCount;
        row.clear();
        for (int i = who.pendingCount - 1; i >= 0; i--) {
            if (i < who.pending.length) {
                row.addMap(who.pending[i], true);
            }
        }
        addConfirmedMaps(who.versionCount, confirmedCount);
        who.versionCount = confirmedCount;
        who.base.become(confirmed);
        who.document.become(confirmed);
        mapPending(who);
        return received;
    }

    /** Answers how many pending steps of a client were lost, in all receiving. */
    public int lost(int client) throws IndexOutOfBoundsException {
        return clientOf(client).lostCount;
    }

    /** Answers 100 * the version of a client + how many steps are pending. */
    public int version(int client) throws IndexOutOfBoundsException {
        Client who = clientOf(client);
        return 100 * who.versionCount + who.pendingCount;
    }

    /** Answers whether the confirmed steps alone make the authority's document of the first one. */
    public boolean isBuilt() {
        built.becomeFirst();
        for (int i = 0; i < confirmedCount && i < log.length; i++) {
            // A copy is applied: applying writes down what is taken, and the log is not to change.
            draft.become(log[i]);
            if (!draft.applyTo(built, trial)) {
                return false;
            }
            built.become(trial);
        }
        return built.isLike(confirmed);
    }

    // ---- documents

    /** Answers the number of tokens of a document. */
    public int size(int whose) throws IndexOutOfBoundsException {
        return documentOf(whose).count;
    }

    /** Answers a token of a document. */
    public int token(int whose, int position) throws IndexOutOfBoundsException {
        Tokens document = documentOf(whose);
        if (position < 0 || position >= document.count) {
            throw new IndexOutOfBoundsException("no token behind the position");
        }
        return document.at(position);
    }

    /** Answers 10 * the number of nodes in which a position is + the type of the one around it. */
    public int around(int whose, int position) throws IndexOutOfBoundsException {
        Tokens document = documentOf(whose);
        checkPosition(document, position);
        int depth = document.findOpen(position, openTypes);
        return 10 * depth + innermost(depth);
    }

    // ---- comments

    /** Adds a comment; answers its number. */
    public int comment(int from, int to)
            throws IndexOutOfBoundsException, IllegalArgumentException, IllegalStateException {
        checkStretch(confirmed, from, to);
        if (commentCount >= MAX_COMMENTS) {
            throw new IllegalStateException("there are as many comments as there may be");
        }
        int number = commentCount;
        commentStarts[number] = from;
        commentEnds[number] = to;
        commentCount++;
        return number;
    }

    /** Answers 100 * the first position of a comment + the second, -1 if it is gone. */
    public int commentAt(int comment) throws IndexOutOfBoundsException {
        if (comment < 0 || comment >= commentCount || comment >= MAX_COMMENTS) {
            throw new IndexOutOfBoundsException("no such comment");
        }
        if (commentStarts[comment] == NONE) {
            return NONE;
        }
        return 100 * commentStarts[comment] + commentEnds[comment];
    }

    // ---- what the calls have in common

    private static boolean isOpening(int token) {
        return token >= 1 && token <= LAST_TYPE;
    }

    private static int depthChange(int token) {
        if (token == CLOSE) {
            return -1;
        }
        return isOpening(token) ? 1 : 0;
    }

    private Client clientOf(int client) {
        if (client < 0 || client >= clients.length) {
            throw new IndexOutOfBoundsException("no such client");
        }
        return clients[client];
    }

    private Tokens documentOf(int whose) {
        return whose == AUTHORITY ? confirmed : clientOf(whose).document;
    }

    private static void checkPosition(Tokens document, int position) {
        if (position < 0 || position > document.count) {
            throw new IndexOutOfBoundsException("no such position");
        }
    }

    private static void checkStretch(Tokens document, int from, int to) {
        checkPosition(document, from);
        checkPosition(document, to);
        if (to <= from) {
            throw new IllegalArgumentException("the second position is not later");
        }
    }

    private static void checkNodeType(int type) {
        if (!isOpening(type)) {
            throw new IndexOutOfBoundsException("no such type of node");
        }
    }

    private boolean isAnyPending() {
        for (int i = 0; i < clients.length; i++) {
            if (clients[i].pendingCount > 0) {
                return true;
            }
        }
        return false;
    }

    private boolean isFirstValidWith(int type, int element, int kinds, int quantity) {
        int formerKinds = grammar.kindsOf(type, element);
        int formerQuantity = grammar.quantityOf(type, element);
        grammar.setElement(type, element, kinds, quantity);
        trial.becomeFirst();
        boolean isValid = grammar.accepts(trial);
        grammar.setElement(type, element, formerKinds, formerQuantity);
        return isValid;
    }

    /** The type of the innermost of the nodes in openTypes, that of the document if there is none. */
    private int innermost(int depth) {
        return depth > 0 && depth <= openTypes.length ? openTypes[depth - 1] : 0;
    }

    /** Whether a step leaves the document valid; what it makes of it is in trial then. */
    private boolean isPossible(Step step, Tokens document) {
        return step.applyTo(document, trial) && grammar.accepts(trial);
    }

    /** Makes the draft a pending step of a client, as each edit does. */
    private void addPending(Client who) {
        if (who.pendingCount >= who.pending.length) {
            throw new IllegalStateException("too many steps are pending");
        }
        if (!isPossible(draft, who.document)) {
            throw new IllegalStateException("the document would not be valid");
        }
        who.document.become(trial);
        who.pending[who.pendingCount].become(draft);
        who.pendingCount++;
    }

    /** Drafts what was copied, or what is in it as long as it is one node. */
    private boolean draftsBare(Client who, int position) {
        int end = who.copied.count;
        for (int from = 0; from < end; from++) {
            if (draftsSlice(who, position, from, end)) {
                return true;
            }
            if (who.copied.findClosing(from) != end - 1) {
                return false;
            }
            end--;
        }
        return false;
    }

    private boolean draftsSlice(Client who, int position, int from, int to) {
        draft.becomeChange();
        draft.addRange(position, 0);
        for (int i = from; i < to; i++) {
            draft.addPut(who.copied.at(i));
        }
        return isPossible(draft, who.document);
    }

    /** Drafts what was copied within a node, of the first type with which it fits. */
    private boolean draftsWrapped(Client who, int position) {
        if (who.copied.count + 2 > MAX_TOKENS) {
            return false;
        }
        for (int type = 1; type <= LAST_TYPE; type++) {
            draft.becomeChange();
            draft.addRange(position, 0);
            draft.addPut(type);
            for (int i = 0; i < who.copied.count; i++) {
                draft.addPut(who.copied.at(i));
            }
            draft.addPut(CLOSE);
            if (isPossible(draft, who.document)) {
                return true;
            }
        }
        return false;
    }

    private void addConfirmedMaps(int from, int to) {
        for (int i = from; i < to; i++) {
            if (i >= 0 && i < log.length) {
                row.addMap(log[i], false);
            }
        }
    }

    /** Maps the pending steps of a client through the row; those that stay are pending again. */
    private void mapPending(Client who) {
        int former = Math.min(who.pendingCount, who.pending.length);
        int kept = 0;
        for (int i = 0; i < former && kept < mapped.length; i++) {
            Step step = mapped[kept];
            step.become(who.pending[i]);
            if (row.carryStep(step, former - i) && isPossible(step, who.document)) {
                who.document.become(trial);
                row.addPartner(step, former - 1 - i);
                kept++;
            } else {
                who.lostCount++;
            }
        }
        for (int i = 0; i < kept && i < who.pending.length; i++) {
            who.pending[i].become(mapped[i]);
        }
        who.pendingCount = kept;
    }

    private void confirm(Step step) {
        if (confirmedCount >= log.length) {
            return;
        }
        Step entry = log[confirmedCount];
        entry.become(step);
        if (entry.applyTo(confirmed, trial)) {
            confirmed.become(trial);
        }
        confirmedCount++;
        mapComments(entry);
    }

    private void mapComments(Step step) {
        for (int i = 0; i < commentCount && i < MAX_COMMENTS; i++) {
            if (commentStarts[i] != NONE) {
                int start = mapOver(step, commentStarts[i], true);
                int end = mapOver(step, commentEnds[i], false);
                commentStarts[i] = end > start ? start : NONE;
                commentEnds[i] = end;
            }
        }
    }

    private int mapOver(Step step, int position, boolean isRight) {
        place.begin(position, isRight);
        step.carry(place, false);
        return place.position;
    }

    /** A row of tokens: a document, a slice, or what a step takes or puts. */
    private static final class Tokens {
        final int[] cells = new int[MAX_TOKENS];
        int count;

        void clear() {
            count = 0;
        }

        /** The token behind a position, NONE if none is there. */
        int at(int position) {
            if (position < 0 || position >= count || position >= cells.length) {
                return NONE;
            }
            return cells[position];
        }

        void add(int token) {
            if (count >= 0 && count < cells.length) {
                cells[count] = token;
                count++;
            }
        }

        void addSlice(Tokens source, int from, int to) {
            for (int i = from; i < to; i++) {
                add(source.at(i));
            }
        }

        void become(Tokens source) {
            clear();
            addSlice(source, 0, source.count);
        }

        /** Becomes the document with which all begin. */
        void becomeFirst() {
            clear();
            add(PARAGRAPH);
            add(CLOSE);
        }

        boolean isLike(Tokens other) {
            if (count != other.count) {
                return false;
            }
            for (int i = 0; i < count; i++) {
                if (at(i) != other.at(i)) {
                    return false;
                }
            }
            return true;
        }

        /** Writes the types of the nodes around a position, the outermost first; answers how many. */
        int findOpen(int position, int[] types) {
            int depth = 0;
            for (int i = 0; i < position; i++) {
                int token = at(i);
                if (isOpening(token) && depth < types.length) {
                    types[depth] = token;
                    depth++;
                } else if (token == CLOSE && depth > 0) {
                    depth--;
                }
            }
            return depth;
        }

        /** Where the node that is opened behind a position is closed, NONE if none is opened there. */
        int findClosing(int position) {
            if (!isOpening(at(position))) {
                return NONE;
            }
            int level = 0;
            for (int i = position; i < count; i++) {
                level += depthChange(at(i));
                if (level == 0) {
                    return i;
                }
            }
            return NONE;
        }

        int countCharacters(int from, int to) {
            int characters = 0;
            for (int i = from; i < to; i++) {
                if (at(i) >= FIRST_CHARACTER) {
                    characters++;
                }
            }
            return characters;
        }
    }

    /**
     * The rules, and the machines that read contents by them. A state of the machine of a type is a
     * set of places as bits: 2 * e is ahead of the element e, and 2 * e + 1 is in the element e,
     * which has something already and may have more.
     */
    private static final class Grammar {
        private static final int START = 1;
        private static final int END = 1 << (2 * ELEMENTS);

        final int[] kinds = FIRST_KINDS.clone();
        final int[] quantities = FIRST_QUANTITIES.clone();
        final int[] types = new int[MAX_TOKENS + 1];
        final int[] states = new int[MAX_TOKENS + 1];

        int kindsOf(int type, int element) {
            int index = ELEMENTS * type + element;
            return index >= 0 && index < kinds.length ? kinds[index] : 0;
        }

        int quantityOf(int type, int element) {
            int index = ELEMENTS * type + element;
            return index >= 0 && index < quantities.length ? quantities[index] : 0;
        }

        void setElement(int type, int element, int newKinds, int newQuantity) {
            int index = ELEMENTS * type + element;
            if (index >= 0 && index < kinds.length && index < quantities.length) {
                kinds[index] = newKinds;
                quantities[index] = newQuantity;
            }
        }

        /** Whether a document is valid. */
        boolean accepts(Tokens document) {
            int depth = 0;
            types[0] = 0;
            states[0] = skip(0, START);
            for (int i = 0; i < document.count; i++) {
                int token = document.at(i);
                if (token == CLOSE) {
                    if (depth == 0 || !isEnd(states[depth])) {
                        return false;
                    }
                    depth--;
                } else {
                    int kind = isOpening(token) ? token : CHARACTER_KIND;
                    states[depth] = advance(types[depth], states[depth], kind);
                    if (states[depth] == 0) {
                        return false;
                    }
                    if (kind != CHARACTER_KIND) {
                        if (depth + 1 >= types.length) {
                            return false;
                        }
                        depth++;
                        types[depth] = kind;
                        states[depth] = skip(kind, START);
                    }
                }
            }
            return depth == 0 && isEnd(states[0]);
        }

        private static boolean isEnd(int state) {
            return (state & END) != 0;
        }

        /** The places that are reached with one thing more, and then without anything more. */
        private int advance(int type, int state, int kind) {
            int reached = 0;
            for (int e = 0; e < ELEMENTS; e++) {
                int index = ELEMENTS * type + e;
                boolean isThere = (state >> (2 * e) & 3) != 0;
                if (isThere && index >= 0 && index < kinds.length && index < quantities.length) {
                    boolean isOfKind = (kinds[index] >> kind & 1) != 0;
                    int quantity = quantities[index];
                    boolean isRepeated = quantity == ANY_NUMBER || quantity == AT_LEAST_ONE;
                    if (isOfKind) {
                        reached |= 1 << (isRepeated ? 2 * e + 1 : 2 * e + 2);
                    }
                }
            }
            return skip(type, reached);
        }

        /** Adds the places that are reached without anything more. */
        private int skip(int type, int state) {
            int reached = state;
            for (int e = 0; e < ELEMENTS; e++) {
                int index = ELEMENTS * type + e;
                boolean isAhead = (reached >> (2 * e) & 1) != 0;
                boolean isPassed = (reached >> (2 * e + 1) & 1) != 0;
                if (isAhead && index >= 0 && index < kinds.length && index < quantities.length) {
                    int quantity = quantities[index];
                    boolean mayBeNone = quantity == AT_MOST_ONE || quantity == ANY_NUMBER;
                    isPassed = isPassed || kinds[index] == 0 || mayBeNone;
                }
                if (isPassed) {
                    reached |= 1 << (2 * e + 2);
                }
            }
            return reached;
        }
    }

    /** A position on its way through maps, and what the last map did to it. */
    private static final class Place {
        int position;
        boolean isRight;
        boolean isLost;
        int range;
        int offset;
        boolean isBetween;
        boolean isHeld;

        void begin(int newPosition, boolean isNowRight) {
            position = newPosition;
            isRight = isNowRight;
            isLost = false;
            leaveRange();
        }

        void leaveRange() {
            range = NONE;
            offset = 0;
            isBetween = false;
            isHeld = false;
        }

        /** Comes into a range from start to end; what is put instead goes from putStart to putEnd. */
        void enterRange(int newRange, int start, int end, int putStart, int putEnd) {
            boolean isAtStart = position == start;
            boolean isAtEnd = position == end;
            range = newRange;
            offset = position - start;
            isBetween = !isAtStart && !isAtEnd;
            // Between the edges, or at the edge that its side looks away from, a partner finds it again.
            isHeld = isRight ? !isAtEnd : !isAtStart;
            if (isAtStart && !isAtEnd) {
                position = putStart;
            } else if (isAtEnd && !isAtStart) {
                position = putEnd;
            } else {
                position = isRight ? putEnd : putStart;
            }
        }
    }

    /** A change, with one range or two, or a marking, which has no ranges. */
    private static final class Step {
        boolean isMarking;
        int markStart;
        int markEnd;
        int markBit;
        boolean isSetting;

        int rangeCount;
        final int[] starts = new int[MAX_RANGES];
        final int[] takenCounts = new int[MAX_RANGES];
        final int[] putCounts = new int[MAX_RANGES];
        /** What all ranges take, as it was when the step was applied last. */
        final Tokens takenTokens = new Tokens();
        final Tokens putTokens = new Tokens();

        void becomeChange() {
            isMarking = false;
            rangeCount = 0;
            takenTokens.clear();
            putTokens.clear();
        }

        void addRange(int start, int taken) {
            if (rangeCount >= 0 && rangeCount < MAX_RANGES) {
                starts[rangeCount] = start;
                takenCounts[rangeCount] = taken;
                putCounts[rangeCount] = 0;
                rangeCount++;
            }
        }

        /** Adds a token to what the last range puts. */
        void addPut(int token) {
            if (rangeCount > 0 && rangeCount <= MAX_RANGES) {
                putTokens.add(token);
                putCounts[rangeCount - 1]++;
            }
        }

        void becomeMarking(int from, int to, int bit, boolean isSet) {
            becomeChange();
            isMarking = true;
            markStart = from;
            markEnd = to;
            markBit = bit;
            isSetting = isSet;
        }

        void become(Step source) {
            isMarking = source.isMarking;
            markStart = source.markStart;
            markEnd = source.markEnd;
            markBit = source.markBit;
            isSetting = source.isSetting;
            rangeCount = source.rangeCount;
            for (int r = 0; r < MAX_RANGES; r++) {
                starts[r] = source.starts[r];
                takenCounts[r] = source.takenCounts[r];
                putCounts[r] = source.putCounts[r];
            }
            takenTokens.become(source.takenTokens);
            putTokens.become(source.putTokens);
        }

        void becomeInverse(Step source) {
            if (source.isMarking) {
                becomeMarking(source.markStart, source.markEnd, source.markBit, !source.isSetting);
                return;
            }
            becomeChange();
            int next = 0;
            for (int r = 0; r < source.rangeCount && r < MAX_RANGES; r++) {
                addRange(source.putStart(r), source.putCounts[r]);
                int end = next + source.takenCounts[r];
                for (int i = next; i < end; i++) {
                    addPut(source.takenTokens.at(i));
                }
                next = end;
            }
        }

        /** Where that what a range puts begins in the document behind. */
        int putStart(int range) {
            return range == 0 ? starts[0] : starts[1] + putCounts[0] - takenCounts[0];
        }

        /** Maps a place through the map of this step, or through that of its inverse. */
        void carry(Place place, boolean isInverse) {
            int moved = 0;
            place.leaveRange();
            for (int r = 0; r < rangeCount && r < MAX_RANGES; r++) {
                int before = starts[r];
                int behind = putStart(r);
                int start = isInverse ? behind : before;
                int end = isInverse ? behind + putCounts[r] : before + takenCounts[r];
                int newStart = isInverse ? before : behind;
                int newEnd = isInverse ? before + takenCounts[r] : behind + putCounts[r];
                if (place.position < start) {
                    break;
                }
                if (place.position <= end) {
                    place.enterRange(r, start, end, newStart, newEnd);
                    return;
                }
                moved = newEnd - end;
            }
            place.position += moved;
        }

        /** Writes what this step makes of a document; answers whether it can be applied to it. */
        boolean applyTo(Tokens before, Tokens after) {
            if (isMarking) {
                markTokens(before, after);
                return true;
            }
            if (!isWithin(before)) {
                return false;
            }
            after.clear();
            takenTokens.clear();
            int next = 0;
            int put = 0;
            for (int r = 0; r < rangeCount && r < MAX_RANGES; r++) {
                int end = starts[r] + takenCounts[r];
                after.addSlice(before, next, starts[r]);
                after.addSlice(putTokens, put, put + putCounts[r]);
                takenTokens.addSlice(before, starts[r], end);
                next = end;
                put += putCounts[r];
            }
            after.addSlice(before, next, before.count);
            return true;
        }

        /** Whether the ranges lie in a document, in order, and what comes of it is not too long. */
        private boolean isWithin(Tokens document) {
            int next = 0;
            int length = document.count;
            for (int r = 0; r < rangeCount && r < MAX_RANGES; r++) {
                if (starts[r] < next || takenCounts[r] < 0) {
                    return false;
                }
                next = starts[r] + takenCounts[r];
                length += putCounts[r] - takenCounts[r];
            }
            return next <= document.count && length <= MAX_TOKENS;
        }

        private void markTokens(Tokens before, Tokens after) {
            after.clear();
            for (int i = 0; i < before.count; i++) {
                int token = before.at(i);
                after.add(i >= markStart && i < markEnd ? markedToken(token) : token);
            }
        }

        private int markedToken(int token) {
            if (token < FIRST_CHARACTER) {
                return token;
            }
            // FIRST_CHARACTER is a multiple of 4, so the marks are the two lowest bits.
            return isSetting ? token | markBit : token & ~markBit;
        }

        boolean changesMarks(Tokens document) {
            for (int i = markStart; i < markEnd; i++) {
                int token = document.at(i);
                if (markedToken(token) != token) {
                    return true;
                }
            }
            return false;
        }
    }

    /** A row of maps, each that of a step or of the inverse of one, some with a partner further on. */
    private static final class MapRow {
        final Step[] steps = new Step[MAX_MAPS];
        final boolean[] areInverse = new boolean[MAX_MAPS];
        final int[] partners = new int[MAX_MAPS];
        int count;
        final Place place = new Place();

        void clear() {
            count = 0;
        }

        void addMap(Step step, boolean isInverse) {
            if (count >= 0 && count < MAX_MAPS) {
                steps[count] = step;
                areInverse[count] = isInverse;
                partners[count] = NONE;
                count++;
            }
        }

        /** Adds the map of a step as the partner of the map at an index. */
        void addPartner(Step step, int index) {
            if (index >= 0 && index < count && index < MAX_MAPS) {
                partners[index] = count;
                addMap(step, false);
            }
        }

        /** Maps a step through the row from an index on; answers whether it stays. */
        boolean carryStep(Step step, int first) {
            return step.isMarking ? carryMarking(step, first) : carryChange(step, first);
        }

        private boolean carryMarking(Step step, int first) {
            step.markStart = carryPosition(step.markStart, true, first);
            step.markEnd = carryPosition(step.markEnd, false, first);
            return step.markEnd > step.markStart;
        }

        private boolean carryChange(Step step, int first) {
            int formerEnd = 0;
            for (int r = 0; r < step.rangeCount && r < MAX_RANGES; r++) {
                int end = step.starts[r] + step.takenCounts[r];
                int newStart = carryPosition(step.starts[r], true, first);
                boolean isStartLost = place.isLost;
                int newEnd = Math.max(newStart, carryPosition(end, false, first));
                boolean isEndLost = place.isLost;
                if (isStartLost && isEndLost || r > 0 && newStart < formerEnd) {
                    return false;
                }
                step.starts[r] = newStart;
                step.takenCounts[r] = newEnd - newStart;
                formerEnd = newEnd;
            }
            return true;
        }

        /** Maps a position; whether it was lost is told by the place afterwards. */
        private int carryPosition(int position, boolean isRight, int first) {
            place.begin(position, isRight);
            int i = Math.max(first, 0);
            for (int maps = 0; maps < MAX_MAPS && i < count && i < MAX_MAPS; maps++) {
                int next = i + 1;
                Step step = steps[i];
                if (step != null) {
                    step.carry(place, areInverse[i]);
                    int partner = partners[i];
                    Step again = partner >= 0 && partner < MAX_MAPS ? steps[partner] : null;
                    if (place.isHeld && again != null) {
                        place.position = again.putStart(place.range) + place.offset;
                        next = partner + 1;
                    } else if (place.isBetween) {
                        place.isLost = true;
                    }
                }
                i = next;
            }
            return place.position;
        }
    }

    /** A client: what it has received, its own steps behind that, and what it has copied. */
    private static final class Client {
        int versionCount;
        int lostCount;
        int pendingCount;
        final Step[] pending = new Step[MAX_PENDING];
        /** The confirmed document of its version. */
        final Tokens base = new Tokens();
        /** The base with the pending steps. */
        final Tokens document = new Tokens();
        final Tokens copied = new Tokens();

        Client() {
            for (int i = 0; i < pending.length; i++) {
                pending[i] = new Step();
            }
            base.becomeFirst();
            document.becomeFirst();
        }
    }
}
